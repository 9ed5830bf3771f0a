section
set_option maxRecDepth 100000 in
set_option maxHeartbeats 4000000 in
theorem e_X5_add {d : Nat} {t : TS} {x : Int}  (ok : OK t) (q0 : -2147483648 ≤ x) (q1 : x ≤ 2147483647) (q2 : tI t 37 1 + 4 ≤ 96) : CV (EX FU (d + 1)) 61 [.ref 37, .int (jI x)] (mk t) (fun t' => OK t' ∧ Fr [(37, 1), (38, 100)] t t' ∧ (tI t' 37 1 = tI t 37 1 + 4) ∧ (∀ m : Nat, tA t' 38 m = if tI t 37 1 ≤ (m : Int) ∧ (m : Int) < tI t 37 1 + 4 then byF x (24 - 8 * ((m : Int) - tI t 37 1)) else tA t 38 m)) := by
  refine CV_ent (d := d + 0) (Bk := bX5_add) (nL := 3) rfl rfl rfl (Nat.le_of_ble_eq_true rfl) ?_
  show Rn _ 1000000 0 [some (.ref 37), some (.int (jI x)), none] [] _ _
  have fr : Fr [(37, 1), (38, 100)] t t := Fr.rf _ _
  refine w_step rfl ?_
  refine w_push kc_24 ?_
  refine w_istore (lv' := [some (.ref 37), some (.int (jI x)), some (.int (jI 24))]) rfl ?_
  refine w_goto ?_
  have key1 : ∀ (n1 M1 : Nat) (i : Int) (t1 : TS), OK t1 → Fr [(37, 1), (38, 100)] t t1 → (-8 ≤ i) → (i ≤ 24) → (i % 8 = 0) → (tI t1 37 1 = tI t 37 1 + (24 - i) / 8) → (∀ m : Nat, tA t1 38 m = if tI t 37 1 ≤ (m : Int) ∧ (m : Int) < tI t 37 1 + (24 - i) / 8 then byF x (24 - 8 * ((m : Int) - tI t 37 1)) else tA t 38 m) → i + 8 < (n1 : Int) → 60 * n1 + (1000) ≤ M1 → Rn (bX5_add (EX FU (d + 0))) M1 1 [some (.ref 37), some (.int (jI x)), some (.int (jI i))] [] (mk t1) (PV (fun t' => OK t' ∧ Fr [(37, 1), (38, 100)] t t' ∧ (tI t' 37 1 = tI t 37 1 + 4) ∧ (∀ m : Nat, tA t' 38 m = if tI t 37 1 ≤ (m : Int) ∧ (m : Int) < tI t 37 1 + 4 then byF x (24 - 8 * ((m : Int) - tI t 37 1)) else tA t 38 m))) := by
    intro n1
    induction n1 with
    | zero => intro M1 i t1 ok1 fr1 i1_0 i1_1 i1_2 i1_3 i1_4 v1 f1; exfalso; omega
    | succ n1 ih1 =>
      intro M1 i t1 ok1 fr1 i1_0 i1_1 i1_2 i1_3 i1_4 v1 f1
      obtain ⟨M1, rfl⟩ : ∃ m, M1 = m + 60 := ⟨M1 - 60, by omega⟩
      refine w_step rfl ?_
      refine w_iload rfl ?_
      refine w_ilt (by omega) (fun h2 => ?_) (fun h2 => ?_)
      · skip
        refine w_step rfl ?_
        refine w_retV ?_
        exact ⟨ok1, fr1, (by omega), (by intro m; rw [i1_4 m]; congr 1; apply propext; omega)⟩
      refine w_aload rfl ?_
      refine w_getI (g_37_1 _) fe_37_1 ok1 (fun z3 hz3 hl3 hh3 => ?_)
      refine w_push kc_96 ?_
      refine w_cge (by omega) (fun h4 => ?_) (fun h4 => ?_)
      · skip
        refine w_step rfl ?_
        refine w_retV ?_
        exact ⟨ok1, fr1, (by omega), (by intro m; rw [i1_4 m]; congr 1; apply propext; omega)⟩
      refine w_aload rfl ?_
      refine w_getR (g_37_0 _) ?_
      refine w_aload rfl ?_
      refine w_getI (g_37_1 _) fe_37_1 ok1 (fun z5 hz5 hl5 hh5 => ?_)
      have hz37 := hz5
      refine w_iload rfl ?_
      refine w_iload rfl ?_
      refine w_bin (fun z6 hz6 hl6 hh6 => ?_)
      refine w_push kc_255 ?_
      refine w_bin (fun z7 hz7 hl7 hh7 => ?_)
      have hu7 := ah_and255 hz7
      have hb255 : z7 = byF x i := by rw [hz7, hz6]; rfl
      refine w_iast (i := (z5).toNat) (ai_38 _) rfl (by omega) (by omega) (ae_38 _) ok1 (by omega) (fun t8 ht8 ok8 => ?_)
      have fr8 := fr1.uA ht8 (by simp)
      have ew : tI t8 37 1 = tI t 37 1 + (24 - i) / 8 := by rw [ht8, tI_uA]; exact i1_3
      refine w_aload rfl ?_
      refine w_dupR ?_
      refine w_getI (g_37_1 _) fe_37_1 ok8 (fun z9 hz9 hl9 hh9 => ?_)
      refine w_push kc_1 ?_
      refine w_add ?_
      refine w_putI (p_37_1 _) fe_37_1 ok8 (by omega) (fun t10 ht10 ok10 => ?_)
      have fr10 := fr8.uI ht10 (by simp)
      have ex : tI t10 37 1 = tI t 37 1 + (24 - i) / 8 + 1 := by rw [ht10, tI_uI, if_pos ⟨rfl, rfl⟩]; omega
      have ew2 : ∀ m, tA t10 38 m = tA t8 38 m := fun m => by rw [ht10]; rfl
      refine w_iinc (lv' := [some (.ref 37), some (.int (jI x)), some (.int (jI (i + (-8))))]) kc_m8 rfl rfl ?_
      refine w_goto ?_
      exact ih1 _ (i + (-8)) t10 ok10 fr10 (by omega) (by omega) (by omega) (by omega) (by_s (by omega) i1_3 i1_4 hz37 ht8 ew2 hb255 (ok.f fe_37_1).1) (by omega) (by omega)
  exact key1 40 _ 24 t ok fr (by omega) (by omega) (by omega) (by omega) (by intro m; rw [if_neg (by omega)]) (by omega) (by omega)
set_option maxRecDepth 100000 in
set_option maxHeartbeats 4000000 in
theorem e_X8_feed {d : Nat} {t : TS} {x y w : Int}  (ok : OK t) (q0 : -2147483648 ≤ x) (q1 : x ≤ 2147483647) (q2 : -2147483648 ≤ y) (q3 : y ≤ 2147483647) (q4 : -2147483648 ≤ w) (q5 : w ≤ 2147483647) : CI (EX FU (d + 2)) 100 [.ref 0, .int (jI x), .int (jI y), .int (jI w)] (mk t) (fun z t' => OK t' ∧ Fr [(37, 1), (38, 100)] t t' ∧ (((96 < tI t 37 1 + 12) ∧ z = (-1000000003) ∧ t' = t) ∨ ((tI t 37 1 + 12 ≤ 96) ∧ z = tI t 37 1 + 12 ∧ (tI t' 37 1 = tI t 37 1 + 12) ∧ (∀ m : Nat, tA t' 38 m = if tI t 37 1 ≤ (m : Int) ∧ (m : Int) < tI t 37 1 + 12 then fbF x y w (m - (tI t 37 1).toNat) else tA t 38 m)))) := by
  refine CI_ent (d := d + 1) (Bk := bX8_feed) (nL := 4) rfl rfl rfl (Nat.le_of_ble_eq_true rfl) ?_
  show Rn _ 1000000 0 [some (.ref 0), some (.int (jI x)), some (.int (jI y)), some (.int (jI w))] [] _ _
  have fr : Fr [(37, 1), (38, 100)] t t := Fr.rf _ _
  have hn0 := (ok.f fe_1_10).1
  have hn1 := (ok.f fe_1_10).2
  refine w_step rfl ?_
  refine w_aload rfl ?_
  refine w_getR (g_0_3 _) ?_
  refine w_getI (g_37_1 _) fe_37_1 ok (fun z1 hz1 hl1 hh1 => ?_)
  refine w_push kc_12 ?_
  refine w_add ?_
  refine w_push kc_96 ?_
  refine w_cle (by omega) (fun h2 => ?_) (fun h2 => ?_)
  · skip
    refine w_step rfl ?_
    refine w_aload rfl ?_
    refine w_getR (g_0_3 _) ?_
    refine w_iload rfl ?_
    refine w_callV1V (oj_37 _).choose_spec rfl (e_X5_add ok (by omega) (by omega) (by omega)) ?_
    rintro t3 ⟨ok3, fq3, hp3_0, hp3_1⟩
    have fr3 := fr.then fq3 (by simp)
    have a1 := hp3_0
    have b1 := hp3_1
    refine w_aload rfl ?_
    refine w_getR (g_0_3 _) ?_
    refine w_iload rfl ?_
    refine w_callV1V (oj_37 _).choose_spec rfl (e_X5_add ok3 (by omega) (by omega) (by omega)) ?_
    rintro t4 ⟨ok4, fq4, hp4_0, hp4_1⟩
    have fr4 := fr3.then fq4 (by simp)
    have a2 := hp4_0
    have b2 := hp4_1
    refine w_aload rfl ?_
    refine w_getR (g_0_3 _) ?_
    refine w_iload rfl ?_
    refine w_callV1V (oj_37 _).choose_spec rfl (e_X5_add ok4 (by omega) (by omega) (by omega)) ?_
    rintro t5 ⟨ok5, fq5, hp5_0, hp5_1⟩
    have fr5 := fr4.then fq5 (by simp)
    have a3 := hp5_0
    have b3 := hp5_1
    refine w_aload rfl ?_
    refine w_getR (g_0_3 _) ?_
    refine w_getI (g_37_1 _) fe_37_1 ok5 (fun z6 hz6 hl6 hh6 => ?_)
    refine w_retI rfl ?_
    exact ⟨ok5, fr5, (by first | (exact Or.inl ⟨by omega, by first | omega | (subst_vars; rfl), rfl⟩) | (exact Or.inr (⟨by omega, by first | omega | (subst_vars; rfl), by omega, fd_c (ok.f fe_37_1).1 a1 a2 b1 b2 b3⟩)))⟩
  refine w_push kc_m1000000003 ?_
  refine w_retI rfl ?_
  exact ⟨ok, fr, (by first | (exact Or.inl ⟨by omega, by first | omega | (subst_vars; rfl), rfl⟩) | (exact Or.inr (⟨by omega, by first | omega | (subst_vars; rfl), by omega, fd_c (ok.f fe_37_1).1 a1 a2 b1 b2 b3⟩)))⟩
end
section
/-! ===== the reference's calls: views ===== -/
theorem picH_cg2 {n : Nat} {O O' : Nat → Nat → Nat → Int} {U H U' H' : Nat → Int} (h : AgH U H U' H') (hn : ∀ p, p < 12 → H p < (n : Int) ∧ -1 ≤ H p) (hu : ∀ s, s < n → 0 ≤ U s ∧ U s ≤ 1) (hO : AgO n O O') : ∀ m : Nat, m ≤ 12 → picH O U H m = picH O' U' H' m
  | 0, _ => rfl
  | m + 1, hm => by
    obtain ⟨h1, h2⟩ := h m (by omega)
    have b := hn m (by omega)
    unfold picH
    rw [picH_cg2 h hn hu hO m (by omega), ← h1]
    by_cases e : H m = -1
    · rw [if_pos e, if_pos e]
    · have u := hu (H m).toNat (by omega)
      rw [if_neg e, if_neg e, ← h2 e, hO _ m _ (by omega) (by omega) (by omega)]
theorem picG_cg2 {n : Nat} {O O' : Nat → Nat → Nat → Int} {x y : GPU} (h : Agr n x y) (hO : AgO n O O') (hu : ∀ s, s < n → 0 ≤ x.2 s ∧ x.2 s ≤ 1) : picG n O x = picG n O' y := picH_cg2 (AgH_of h) (fun p _ => HF_b _ _ _) hu hO 12 (Nat.le_refl _)
def xA (t : TS) (c k : Nat) : GPU := dysF (tA t c 1).toNat (OA t c) (tA t c 3) (tA t c 0) k (RPc t c)
def pcA (t : TS) (c k : Nat) : Int := picG (tA t c 1).toNat (OA t c) (xA t c k)
def mtA (t : TS) (c k : Nat) : Int := matG (tA t c 1).toNat (LA t c) (RA t c) (xA t c k)
def caA (t : TS) (c k : Nat) : Int := caF (xA t c k).1 (tA t c 1).toNat
def atA (t : TS) (c k : Nat) (p : Int) : Int := hoF (xA t c k).1 p (tA t c 1).toNat
theorem AW_no {t : TS} (h : tI t 68 4 = -1) : AWp t := Or.inl h
theorem rh_at {t : TS} (p : Int) : RHp t p = atA t 69 0 p := rfl
theorem pc_e {t : TS} (h : tI t 68 4 = -1) : picG (tA t 69 1).toNat (OA t 69) (RPt t) = pcA t 69 0 := by rw [RPt_no h]; rfl
theorem mt_e {t : TS} (h : tI t 68 4 = -1) : matG (tA t 69 1).toNat (LA t 69) (RA t 69) (RPt t) = mtA t 69 0 := by rw [RPt_no h]; rfl
/-- a state that has gone on for some days from another one -/
def GXp (t u : TS) (k : Nat) : Prop := RPt u = xA t 69 k ∧ tI u 68 4 = -1 ∧ OA u 69 = OA t 69 ∧ tA u 69 1 = tA t 69 1 ∧ (∀ s, LA u 69 s = LA t 69 s ∧ RA u 69 s = RA t 69 s) ∧ tA u 69 3 = tA t 69 3 ∧ tA u 69 0 = zdsF k (tA t 69 0) (tA t 69 3)
theorem gx_0 {t u : TS} (h : tI t 68 4 = -1) (e : ∀ i, tA u 69 i = tA t 69 i) (e4 : tI u 68 4 = tI t 68 4) : GXp t u 0 := by
  refine ⟨?_, e4.trans h, OA_cg (fun i _ _ _ => e i), e 1, fun s => ⟨e _, e _⟩, e 3, e 0⟩
  rw [RPt_no (e4.trans h)]
  show RPc u 69 = RPc t 69
  unfold RPc
  congr 1
  · funext s; exact e _
  · funext s; exact e _
theorem gx_d {t u v : TS} {k : Nat} (h : GXp t u 0) (g : GRp u v (dysF (tA u 69 1).toNat (OA u 69) (tA u 69 3) (tA u 69 0) k (RPt u))) (d : Dq u v) (hz : tA v 69 0 = zdsF k (tA u 69 0) (tA u 69 3)) : GXp t v k := by
  obtain ⟨a1, a2, a3, a4, a5, a6, a7⟩ := h
  obtain ⟨g1, g2, g3, g4, g5⟩ := g
  have a7' : tA u 69 0 = tA t 69 0 := a7
  refine ⟨?_, g5.trans a2, g3.trans a3, g4.trans a4, fun s => ?_, (d 3 (by decide) (by decide) (by decide)).trans a6, by rw [hz, a6, a7']⟩
  · rw [g1, a1, a3, a4, a6, a7']
    rfl
  · have := a5 s
    refine ⟨?_, ?_⟩
    · exact (d _ (by omega) (by omega) (by omega)).trans this.1
    · exact (d _ (by omega) (by omega) (by omega)).trans this.2
theorem gx_s {t u v : TS} {k : Nat} (h : GXp t u k) (g : GRp u v (dyF (tA u 69 1).toNat (OA u 69) (tA u 69 3) (tA u 69 0) (RPt u))) (d : Dq u v) (hz : tA v 69 0 = zdF (tA u 69 0) (tA u 69 3)) : GXp t v (k + 1) := by
  obtain ⟨a1, a2, a3, a4, a5, a6, a7⟩ := h
  obtain ⟨g1, g2, g3, g4, g5⟩ := g
  refine ⟨?_, g5.trans a2, g3.trans a3, g4.trans a4, fun s => ?_, (d 3 (by decide) (by decide) (by decide)).trans a6, by rw [hz, a6, a7]; rfl⟩
  · rw [g1, a1, a3, a4, a6, a7]
    rfl
  · have := a5 s
    refine ⟨?_, ?_⟩
    · exact (d _ (by omega) (by omega) (by omega)).trans this.1
    · exact (d _ (by omega) (by omega) (by omega)).trans this.2
theorem gx_pc {t u : TS} {k : Nat} (h : GXp t u k) : picG (tA u 69 1).toNat (OA u 69) (RPt u) = pcA t 69 k := by
  obtain ⟨a1, a2, a3, a4, a5, a6, a7⟩ := h
  rw [a1, a3, a4]
  rfl
theorem gx_mt {t u : TS} {k : Nat} (h : GXp t u k) : matG (tA u 69 1).toNat (LA u 69) (RA u 69) (RPt u) = mtA t 69 k := by
  obtain ⟨a1, a2, a3, a4, a5, a6, a7⟩ := h
  rw [a1, a4, funext (fun s => (a5 s).1), funext (fun s => (a5 s).2)]
  rfl
theorem gx_ca {t u : TS} {k : Nat} (h : GXp t u k) : caF (AA u 69) (tA u 69 1).toNat = caA t 69 k := by
  obtain ⟨a1, a2, a3, a4, a5, a6, a7⟩ := h
  rw [RPt_no a2] at a1
  have e : AA u 69 = (xA t 69 k).1 := by rw [← a1]; rfl
  rw [e, a4]
  rfl
theorem gx_at {t u : TS} {k : Nat} {p : Int} (h : GXp t u k) : RHp u p = atA t 69 k p := by
  obtain ⟨a1, a2, a3, a4, a5, a6, a7⟩ := h
  rw [RPt_no a2] at a1
  show hoF (RPc u 69).1 p (tA u 69 1).toNat = _
  rw [a1, a4]
  rfl
/-! changing two -/
def gsA (t : TS) (a b : Nat) : Int := if ¬ AA t 69 a = 12 ∧ ¬ AA t 69 b = 12 then pcA t 69 0 - picG (tA t 69 1).toNat (OA t 69) (upF (upF (RPc t 69).1 a (AA t 69 b)) b (AA t 69 a), (RPc t 69).2) else 0
theorem ch_rp {t u v : TS} {x y : Int} (h : tI t 68 4 = -1) (e : ∀ i, tA u 69 i = tA t 69 i) (e4 : tI v 68 4 = tI t 68 4) (hc : ∀ i, tA v 69 i = if i = 32 + 5 * y.toNat then tA u 69 (32 + 5 * x.toNat) else if i = 32 + 5 * x.toNat then tA u 69 (32 + 5 * y.toNat) else tA u 69 i) (hx : 0 ≤ x ∧ x ≤ 11 ∧ 0 ≤ y ∧ y ≤ 11) : picG (tA v 69 1).toNat (OA v 69) (RPt v) = picG (tA t 69 1).toNat (OA t 69) (upF (upF (RPc t 69).1 x.toNat (AA t 69 y.toNat)) y.toNat (AA t 69 x.toNat), (RPc t 69).2) := by
  have e1 : tA v 69 1 = tA t 69 1 := by rw [hc, if_neg (by omega), if_neg (by omega), e]
  have eo : OA v 69 = OA t 69 := OA_cg (fun i _ _ c => by rw [hc, if_neg (by omega), if_neg (by omega), e])
  rw [e1, eo, RPt_no (e4.trans h)]
  unfold RPc
  congr 2
  · funext s
    rw [hc]
    show _ = upF _ _ _ s
    unfold upF
    by_cases q : s = y.toNat
    · rw [if_pos (by omega), if_pos q, e]
      rfl
    · rw [if_neg (by omega), if_neg q]
      by_cases q2 : s = x.toNat
      · rw [if_pos (by omega), if_pos q2, e]
        rfl
      · rw [if_neg (by omega), if_neg q2, e]
  · funext s
    rw [hc, if_neg (by omega), if_neg (by omega), e]
theorem ch_bk {u v w : TS} {x y : Int} (h1 : ∀ i, tA v 69 i = if i = 32 + 5 * y.toNat then tA u 69 (32 + 5 * x.toNat) else if i = 32 + 5 * x.toNat then tA u 69 (32 + 5 * y.toNat) else tA u 69 i) (m : TS) (hm : ∀ i, tA m 69 i = tA v 69 i) (h2 : ∀ i, tA w 69 i = if i = 32 + 5 * y.toNat then tA m 69 (32 + 5 * x.toNat) else if i = 32 + 5 * x.toNat then tA m 69 (32 + 5 * y.toNat) else tA m 69 i) : ∀ i, tA w 69 i = tA u 69 i := by
  intro i
  rw [h2, hm, hm, hm, h1, h1, h1]
  by_cases q : i = 32 + 5 * y.toNat
  · rw [if_pos q]
    by_cases q2 : 32 + 5 * x.toNat = 32 + 5 * y.toNat
    · rw [if_pos q2, q, q2]
    · rw [if_neg q2, if_pos rfl, q]
  · rw [if_neg q]
    by_cases q2 : i = 32 + 5 * x.toNat
    · rw [if_pos q2, if_pos rfl, q2]
    · rw [if_neg q2, if_neg q, if_neg q2]
/-! one stone lost -/
theorem lo_rp {t u : TS} {s : Int} (h : tI t 68 4 = -1) (e : ∀ i, tA u 69 i = if i = 32 + 5 * s.toNat then 12 else tA t 69 i) (e4 : tI u 68 4 = s) (h0 : 0 ≤ s ∧ s ≤ 11) : AWp u ∧ RPt u = (upF (RPc t 69).1 s.toNat 13, (RPc t 69).2) ∧ OA u 69 = OA t 69 ∧ tA u 69 1 = tA t 69 1 ∧ tA u 69 3 = tA t 69 3 ∧ tA u 69 0 = tA t 69 0 := by
  refine ⟨Or.inr (by rw [e4, e, if_pos rfl]), ?_, OA_cg (fun i _ _ c => by rw [e, if_neg (by omega)]), by rw [e, if_neg (by omega)], by rw [e, if_neg (by omega)], by rw [e, if_neg (by omega)]⟩
  unfold RPt RPc
  congr 1
  · funext i
    show _ = upF _ _ _ i
    unfold upF
    rw [e4, e]
    by_cases q : i = s.toNat
    · rw [if_pos (by omega), if_pos q]
    · rw [if_neg (by omega), if_neg q, if_neg (by omega)]
  · funext i
    rw [e, if_neg (by omega)]
theorem lo_pc {t u v : TS} {s : Int} {k : Nat} (h : tI t 68 4 = -1) (e : ∀ i, tA u 69 i = if i = 32 + 5 * s.toNat then 12 else tA t 69 i) (e4 : tI u 68 4 = s) (h0 : 0 ≤ s ∧ s ≤ 11) (g : GRp u v (dysF (tA u 69 1).toNat (OA u 69) (tA u 69 3) (tA u 69 0) k (RPt u))) : picG (tA v 69 1).toNat (OA v 69) (RPt v) = picG (tA t 69 1).toNat (OA t 69) (dysF (tA t 69 1).toNat (OA t 69) (tA t 69 3) (tA t 69 0) k (upF (RPc t 69).1 s.toNat 13, (RPc t 69).2)) := by
  obtain ⟨b1, b2, b3, b4, b5, b6⟩ := lo_rp h e e4 h0
  obtain ⟨g1, g2, g3, g4, g5⟩ := g
  rw [g1, g3, g4, b2, b3, b4, b5, b6]
/-! the image as it goes on -/
theorem exA_cp {t u : TS} {c e : Nat} (w : WF t c) (hc : tA t c 4 ≤ 14) (h : ∀ i, i < 1461 → tA u e i = tA t c i) (q d f0 f1 f2 : Int) : exR u e q d f0 f1 f2 = exR t c q d f0 f1 f2 := by
  have e4 := h 4 (by decide)
  have hcu : cuA u e q = cuA t c q := by
    unfold cuA
    rw [e4]
    exact coF_cg (fun k hk => h _ (by omega))
  have b := coF_b (rkA t c) q (tA t c 4).toNat
  have b' : -1 ≤ cuA t c q ∧ cuA t c q ≤ ((tA t c 4).toNat : Int) - 1 := b
  unfold exR
  rw [hcu]
  by_cases z : cuA t c q = -1
  · rw [if_pos z, if_pos z]
  · rw [if_neg z, if_neg z]
    have hk : ((cuA t c q).toNat : Int) < tA t c 4 := by omega
    obtain ⟨w1, w2⟩ := w _ hk
    have en : rnA u e (cuA t c q).toNat = rnA t c (cuA t c q).toNat := by unfold rnA; rw [h _ (by omega)]
    rw [en]
    refine evR_cg (fun i hi => ⟨?_, Or.inl rfl⟩)
    unfold rnA at hi
    exact h _ (by omega)
theorem OA_cp {t u : TS} {c e n : Nat} (w : WF t c) (hc : tA t c 4 ≤ 14) (h : ∀ i, i < 1461 → tA u e i = tA t c i) (hn : n ≤ 12) : AgO n (OA u e) (OA t c) := by
  intro s p v hs hp hv
  have k : ∀ v, dkS u e s (p / 3) v = dkS t c s (p / 3) v := by
    intro v
    unfold dkS dkA hvA
    rw [exA_cp w hc h, h _ (by omega), h _ (by omega), h _ (by omega)]
  unfold OA
  rw [if_pos hp, if_pos hp, k, k, h _ (by omega), h _ (by omega)]
def BRp (t u : TS) (c k : Nat) : Prop := tA u 69 1 = tA t c 1 ∧ tI u 68 4 = -1 ∧ Agr (tA t c 1).toNat (RPt u) (xA t c k) ∧ AgO (tA t c 1).toNat (OA u 69) (OA t c) ∧ (∀ s, s < 12 → LA u 69 s = LA t c s ∧ RA u 69 s = RA t c s) ∧ tA u 69 3 = tA t c 3 ∧ tA u 69 0 = zdsF k (tA t c 0) (tA t c 3) ∧ NZ u 69
theorem bq_0 {t u : TS} {c : Nat} (w : WF t c) (nz : NZ t c) (hc : tA t c 4 ≤ 14) (hn : tA t c 1 ≤ 12) (h : ∀ i, i < 1461 → tA u 69 i = tA t c i) (e4 : tI u 68 4 = -1) : BRp t u c 0 := by
  refine ⟨h 1 (by decide), e4, fun s hs => ?_, OA_cp w hc h (by omega), fun s hs => ⟨h _ (by omega), h _ (by omega)⟩, h 3 (by decide), h 0 (by decide), fun k hk => ?_⟩
  · rw [RPt_no e4]
    exact ⟨h _ (by omega), h _ (by omega)⟩
  · rw [h 4 (by decide)] at hk
    rw [h _ (by omega)]
    exact nz k hk
theorem bq_s {t u v : TS} {c k : Nat} (h : BRp t u c k) (g : GRp u v (dyF (tA u 69 1).toNat (OA u 69) (tA u 69 3) (tA u 69 0) (RPt u))) (d : Dq u v) (hz : tA v 69 0 = zdF (tA u 69 0) (tA u 69 3)) : BRp t v c (k + 1) := by
  obtain ⟨a1, a2, a3, a4, a5, a6, a7, a8⟩ := h
  obtain ⟨g1, g2, g3, g4, g5⟩ := g
  refine ⟨g4.trans a1, g5.trans a2, ?_, by rw [g3]; exact a4, fun s hs => ?_, (d 3 (by decide) (by decide) (by decide)).trans a6, by rw [hz, a6, a7]; rfl, fun k hk => ?_⟩
  · rw [g1, a1, a6, a7]
    exact dyF_agr a3 a4
  · have := a5 s hs
    exact ⟨(d _ (by omega) (by omega) (by omega)).trans this.1, (d _ (by omega) (by omega) (by omega)).trans this.2⟩
  · rw [d 4 (by decide) (by decide) (by decide)] at hk
    rw [d _ (by omega) (by omega) (by omega)]
    exact a8 k hk
theorem bq_f {S : List (Nat × Nat)} {t u v : TS} {c k : Nat} (h : BRp t u c k) (f : Fr S u v) (h69 : (69, 100) ∉ S) (h4 : (68, 4) ∉ S) : BRp t v c k := by
  have e := f.2.1 _ h69
  obtain ⟨a1, a2, a3, a4, a5, a6, a7, a8⟩ := h
  refine ⟨(e 1).trans a1, (f.1 _ _ h4).trans a2, by rw [rp_fr f h69 h4]; exact a3, by rw [OA_fr f h69]; exact a4, fun s hs => ?_, (e 3).trans a6, (e 0).trans a7, fun k hk => ?_⟩
  · have := a5 s hs
    exact ⟨(e _).trans this.1, (e _).trans this.2⟩
  · rw [e] at hk ⊢
    exact a8 k hk
theorem bq_pc {t u : TS} {c k : Nat} (h : BRp t u c k) (ok : OK u) (hu : ∀ s, s < 12 → 0 ≤ (RPt u).2 s ∧ (RPt u).2 s ≤ 1) (hn : tA t c 1 ≤ 12) : picG (tA u 69 1).toNat (OA u 69) (RPt u) = pcA t c k := by
  obtain ⟨a1, a2, a3, a4, a5, a6, a7, a8⟩ := h
  rw [a1]
  unfold pcA
  exact picG_cg2 a3 a4 (fun s hs => hu s (by omega))
theorem bq_mt {t u : TS} {c k : Nat} (h : BRp t u c k) (hn : tA t c 1 ≤ 12) : matG (tA u 69 1).toNat (LA u 69) (RA u 69) (RPt u) = mtA t c k := by
  obtain ⟨a1, a2, a3, a4, a5, a6, a7, a8⟩ := h
  rw [a1]
  exact matG_cg a3 (fun s hs => a5 s (by omega))
theorem rt_u {u : TS} (ok : OK u) (s : Nat) (hs : s < 12) : 0 ≤ (RPt u).2 s ∧ (RPt u).2 s ≤ 1 := ok.a (ax_69 (nr_S4 (s := s) (by omega)))
/-! bytes: one way to shift and the other -/
theorem sh_bit (x : BitVec 32) (n : Nat) (h : n ≤ 24) : (x.sshiftRight n) &&& 255#32 = (x >>> n) &&& 255#32 := by
  apply BitVec.eq_of_getLsbD_eq
  intro i hi
  rw [BitVec.getLsbD_and, BitVec.getLsbD_and]
  by_cases q : i < 8
  · rw [BitVec.getLsbD_sshiftRight, BitVec.getLsbD_ushiftRight]
    have h1 : ¬ 32 ≤ i := by omega
    have h2 : n + i < 32 := by omega
    simp [h1, h2]
  · have e : (255#32).getLsbD i = false := by
      have h8 : i = 8 + (i - 8) := by omega
      rw [BitVec.getLsbD_ofNat]
      have : Nat.testBit 255 i = false := by
        apply Nat.testBit_lt_two_pow
        calc 255 < 2 ^ 8 := by decide
          _ ≤ 2 ^ i := Nat.pow_le_pow_right (by decide) (by omega)
      simp [this]
    rw [e, Bool.and_false, Bool.and_false]
theorem by_sar (x : Int) {s : Int} (hs : s = 0 ∨ s = 8 ∨ s = 16 ∨ s = 24) : fZ (fun x y => x &&& y) (fZ (fun x y => x >>> (y &&& 31)) x s) 255 = byF x s := by
  unfold byF fZ
  rw [jI_self, jI_self]
  congr 1
  apply Int32.toBitVec_inj.mp
  rw [Int32.toBitVec_and, Int32.toBitVec_and]
  have e : (jI 255).toBitVec = 255#32 := by decide
  rw [e]
  rcases hs with rfl | rfl | rfl | rfl
  · exact sh_bit (jI x).toBitVec 0 (by decide)
  · exact sh_bit (jI x).toBitVec 8 (by decide)
  · exact sh_bit (jI x).toBitVec 16 (by decide)
  · exact sh_bit (jI x).toBitVec 24 (by decide)
theorem fd_s {t u v : TS} {x y z k q s b i : Int} (h0 : 0 ≤ tI t 68 9) (hk : 0 ≤ k ∧ k < 12) (g : ∀ m : Nat, tA u 75 m = if tI t 68 9 ≤ (m : Int) ∧ (m : Int) < tI t 68 9 + k then fbF x y z (m - (tI t 68 9).toNat) else tA t 75 m) (hq : (k < 4 ∧ q = x) ∨ (4 ≤ k ∧ k < 8 ∧ q = y) ∨ (8 ≤ k ∧ q = z)) (hs : s = fZ (fun x y => x >>> (y &&& 31)) q (24 - 8 * (k % 4))) (hb : b = fZ (fun x y => x &&& y) s 255) (hi : i = tI t 68 9 + k) (e : v = uA u 75 i.toNat b) : ∀ m : Nat, tA v 75 m = if tI t 68 9 ≤ (m : Int) ∧ (m : Int) < tI t 68 9 + (k + 1) then fbF x y z (m - (tI t 68 9).toNat) else tA t 75 m := by
  have hb2 : b = fbF x y z k.toNat := by
    rw [hb, hs, by_sar q (by omega)]
    unfold fbF
    rw [show ((k.toNat % 4 : Nat) : Int) = k % 4 by omega]
    rcases hq with c | c | c
    · rw [if_pos (by omega), c.2]
    · rw [if_neg (by omega), if_pos (by omega), c.2.2]
    · rw [if_neg (by omega), if_neg (by omega), c.2]
  intro m
  rw [e, tA_uA, g]
  by_cases c : m = i.toNat
  · rw [if_pos ⟨rfl, c⟩, if_pos (by omega), hb2]
    congr 1
    omega
  · rw [if_neg (fun n => c n.2)]
    by_cases c2 : tI t 68 9 ≤ (m : Int) ∧ (m : Int) < tI t 68 9 + k
    · rw [if_pos c2, if_pos (by omega)]
    · rw [if_neg c2, if_neg (by omega)]
end
section
theorem comes_f {t u : TS} {c : Nat} {v : Int} (hc : 32 ≤ c ∧ c ≤ 33) (h0 : tA u 69 (c + 5 * (tA t 69 1).toNat) = v) (h1 : ∀ i, ¬ i = 1 → (i < 29 + 5 * (tA t 69 1).toNat ∨ 34 + 5 * (tA t 69 1).toNat ≤ i) → tA u 69 i = tA t 69 i) : ∀ m : Nat, tA u 69 (c + 5 * m) = if m = (tA t 69 1).toNat then v else tA t 69 (c + 5 * m) := by
  intro m
  by_cases e : m = (tA t 69 1).toNat
  · rw [if_pos e, e, h0]
  · rw [if_neg e]
    exact h1 _ (by omega) (by omega)
theorem gr_ca {t u : TS} {k : Nat} (h : tI t 68 4 = -1) (g : GRp t u (dysF (tA t 69 1).toNat (OA t 69) (tA t 69 3) (tA t 69 0) k (RPt t))) : caF (AA u 69) (tA u 69 1).toNat = caA t 69 k := by
  obtain ⟨g1, g2, g3, g4, g5⟩ := g
  rw [RPt_no (g5.trans h), RPt_no h] at g1
  have e : AA u 69 = (xA t 69 k).1 := by
    show (RPc u 69).1 = _
    rw [g1]
    rfl
  rw [e, g4]
  rfl
set_option maxRecDepth 100000 in
set_option maxHeartbeats 4000000 in
theorem e_X9_putsBack {d : Nat} {t : TS}  (ok : OK t) : CV (EX FU (d + 1)) 177 [.ref 68] (mk t) (fun t' => OK t' ∧ Fr [(69, 100), (68, 4)] t t' ∧ (∀ i : Nat, i < 89 → tA t' 69 i = tA t 74 i) ∧ (∀ i : Nat, 89 ≤ i → tA t' 69 i = tA t 69 i) ∧ (tI t' 68 4 = -1)) := by
  refine CV_ent (d := d + 0) (Bk := bX9_putsBack) (nL := 2) rfl rfl rfl (Nat.le_of_ble_eq_true rfl) ?_
  show Rn _ 1000000 0 [some (.ref 68), none] [] _ _
  have fr : Fr [(69, 100), (68, 4)] t t := Fr.rf _ _
  have hn0 := (ok.a (ax_69 nr_1)).1
  have hn1 := (ok.a (ax_69 nr_1)).2
  refine w_step rfl ?_
  refine w_push kc_0 ?_
  refine w_istore (lv' := [some (.ref 68), some (.int (jI 0))]) rfl ?_
  refine w_goto ?_
  have key1 : ∀ (n1 M1 : Nat) (i : Int) (t1 : TS), OK t1 → Fr [(69, 100), (68, 4)] t t1 → (0 ≤ i) → (i ≤ 89) → (∀ m : Nat, (m : Int) < i → tA t1 69 m = tA t 74 m) → (∀ m : Nat, 89 ≤ m → tA t1 69 m = tA t 69 m) → 89 - i < (n1 : Int) → 60 * n1 + (1000) ≤ M1 → Rn (bX9_putsBack (EX FU (d + 0))) M1 1 [some (.ref 68), some (.int (jI i))] [] (mk t1) (PV (fun t' => OK t' ∧ Fr [(69, 100), (68, 4)] t t' ∧ (∀ i : Nat, i < 89 → tA t' 69 i = tA t 74 i) ∧ (∀ i : Nat, 89 ≤ i → tA t' 69 i = tA t 69 i) ∧ (tI t' 68 4 = -1))) := by
    intro n1
    induction n1 with
    | zero => intro M1 i t1 ok1 fr1 i1_0 i1_1 i1_2 i1_3 v1 f1; exfalso; omega
    | succ n1 ih1 =>
      intro M1 i t1 ok1 fr1 i1_0 i1_1 i1_2 i1_3 v1 f1
      obtain ⟨M1, rfl⟩ : ∃ m, M1 = m + 60 := ⟨M1 - 60, by omega⟩
      have ea : ∀ m, tA t1 74 m = tA t 74 m := fun m => fr1.2.1 74 (by simp) m
      refine w_step rfl ?_
      refine w_iload rfl ?_
      refine w_push kc_89 ?_
      refine w_cge (by omega) (fun h2 => ?_) (fun h2 => ?_)
      · skip
        refine w_step rfl ?_
        refine w_aload rfl ?_
        refine w_push kc_m1 ?_
        refine w_putI (p_68_4 _) fe_68_4 ok1 (by omega) (fun t3 ht3 ok3 => ?_)
        have fr3 := fr1.uI ht3 (by simp)
        have eK := ht3
        refine w_retV ?_
        exact ⟨ok3, fr3, (by intro i hi; rw [eK, tA_uI]; exact i1_2 i (by omega)), (by intro i hi; rw [eK, tA_uI]; exact i1_3 i hi), (by rw [eK, tI_uI, if_pos ⟨rfl, rfl⟩])⟩
      refine w_aload rfl ?_
      refine w_getR (g_68_0 _) ?_
      refine w_iload rfl ?_
      refine w_aload rfl ?_
      refine w_getR (g_68_7 _) ?_
      refine w_iload rfl ?_
      refine w_iald (i := (i).toNat) (ai_74 _) (by omega) (by omega) (ae_74 _) ok1 (fun z4 hz4 hl4 hh4 => ?_)
      have hj4 := nr_jr (i).toNat
      refine w_iast (i := (i).toNat) (ai_69 _) rfl (by omega) (by omega) (ae_69 _) ok1 (by omega) (fun t5 ht5 ok5 => ?_)
      have fr5 := fr1.uA ht5 (by simp)
      refine w_iinc (lv' := [some (.ref 68), some (.int (jI (i + 1)))]) kc_1 rfl rfl ?_
      refine w_goto ?_
      exact ih1 _ (i + 1) t5 ok5 fr5 (by omega) (by omega) (by intro m hm; rw [ht5, tA_uA]; split <;> first | exact i1_2 m (by omega) | (rename_i q; rw [q.2, hz4]; exact ea _)) (by intro m hm; rw [ht5, tA_uA, if_neg (by omega)]; exact i1_3 m hm) (by omega) (by omega)
  exact key1 90 _ 0 t ok fr (by omega) (by omega) (by intro m hm; omega) (fun _ _ => rfl) (by omega) (by omega)
set_option maxRecDepth 100000 in
set_option maxHeartbeats 4000000 in
theorem e_X9_comes {d : Nat} {t : TS} {k l r : Int}  (ok : OK t) (q0 : 0 ≤ k) (q1 : k ≤ 5) (q2 : 0 ≤ l) (q3 : l ≤ 6) (q4 : 0 ≤ r) (q5 : r ≤ 6) (q6 : tA t 69 1 ≤ 11) : CI (EX FU (d + 1)) 137 [.ref 68, .int (jI k), .int (jI l), .int (jI r)] (mk t) (fun z t' => OK t' ∧ Fr [(69, 100)] t t' ∧ (z = tA t 69 1) ∧ (tA t' 69 1 = tA t 69 1 + 1) ∧ (tA t' 69 (29 + 5 * (tA t 69 1).toNat) = k) ∧ (tA t' 69 (30 + 5 * (tA t 69 1).toNat) = l) ∧ (tA t' 69 (31 + 5 * (tA t 69 1).toNat) = r) ∧ (∀ i, ¬ i = 1 → (i < 29 + 5 * (tA t 69 1).toNat ∨ 34 + 5 * (tA t 69 1).toNat ≤ i) → tA t' 69 i = tA t 69 i) ∧ (tA t' 69 (32 + 5 * (tA t 69 1).toNat) = 12) ∧ (tA t' 69 (33 + 5 * (tA t 69 1).toNat) = 0)) := by
  refine CI_ent (d := d + 0) (Bk := bX9_comes) (nL := 6) rfl rfl rfl (Nat.le_of_ble_eq_true rfl) ?_
  show Rn _ 1000000 0 [some (.ref 68), some (.int (jI k)), some (.int (jI l)), some (.int (jI r)), none, none] [] _ _
  have fr : Fr [(69, 100)] t t := Fr.rf _ _
  have hn0 := (ok.a (ax_69 nr_1)).1
  have hn1 := (ok.a (ax_69 nr_1)).2
  refine w_step rfl ?_
  refine w_aload rfl ?_
  refine w_getR (g_68_0 _) ?_
  refine w_push kc_1 ?_
  refine w_iald (i := 1) (ai_69 _) (by omega) (by omega) (ax_69 nr_1) ok (fun z1 hz1 hl1 hh1 => ?_)
  have en := hz1
  refine w_istore (lv' := [some (.ref 68), some (.int (jI k)), some (.int (jI l)), some (.int (jI r)), some (.int (jI z1)), none]) rfl ?_
  refine w_push kc_29 ?_
  refine w_push kc_5 ?_
  refine w_iload rfl ?_
  refine w_mul ?_
  refine w_add ?_
  refine w_istore (lv' := [some (.ref 68), some (.int (jI k)), some (.int (jI l)), some (.int (jI r)), some (.int (jI z1)), some (.int (jI (29 + (5 * z1))))]) rfl ?_
  refine w_aload rfl ?_
  refine w_getR (g_68_0 _) ?_
  refine w_iload rfl ?_
  refine w_iload rfl ?_
  refine w_iast (i := ((29 + (5 * z1))).toNat) (ai_69 _) rfl (by omega) (by omega) (ax_69 (nr_S0 (s := z1.toNat) (by omega))) ok (by omega) (fun t2 ht2 ok2 => ?_)
  have fr2 := fr.uA ht2 (by simp)
  have w1 := ht2
  refine w_aload rfl ?_
  refine w_getR (g_68_0 _) ?_
  refine w_iload rfl ?_
  refine w_push kc_1 ?_
  refine w_add ?_
  refine w_iload rfl ?_
  refine w_iast (i := (((29 + (5 * z1)) + 1)).toNat) (ai_69 _) rfl (by omega) (by omega) (ax_69 (nr_S1 (s := z1.toNat) (by omega))) ok2 (by omega) (fun t3 ht3 ok3 => ?_)
  have fr3 := fr2.uA ht3 (by simp)
  have w2 := ht3
  refine w_aload rfl ?_
  refine w_getR (g_68_0 _) ?_
  refine w_iload rfl ?_
  refine w_push kc_2 ?_
  refine w_add ?_
  refine w_iload rfl ?_
  refine w_iast (i := (((29 + (5 * z1)) + 2)).toNat) (ai_69 _) rfl (by omega) (by omega) (ax_69 (nr_S2 (s := z1.toNat) (by omega))) ok3 (by omega) (fun t4 ht4 ok4 => ?_)
  have fr4 := fr3.uA ht4 (by simp)
  have w3 := ht4
  refine w_aload rfl ?_
  refine w_getR (g_68_0 _) ?_
  refine w_iload rfl ?_
  refine w_push kc_3 ?_
  refine w_add ?_
  refine w_push kc_12 ?_
  refine w_iast (i := (((29 + (5 * z1)) + 3)).toNat) (ai_69 _) rfl (by omega) (by omega) (ax_69 (nr_S3 (s := z1.toNat) (by omega))) ok4 (by omega) (fun t5 ht5 ok5 => ?_)
  have fr5 := fr4.uA ht5 (by simp)
  have w4 := ht5
  refine w_aload rfl ?_
  refine w_getR (g_68_0 _) ?_
  refine w_iload rfl ?_
  refine w_push kc_4 ?_
  refine w_add ?_
  refine w_push kc_0 ?_
  refine w_iast (i := (((29 + (5 * z1)) + 4)).toNat) (ai_69 _) rfl (by omega) (by omega) (ax_69 (nr_S4 (s := z1.toNat) (by omega))) ok5 (by omega) (fun t6 ht6 ok6 => ?_)
  have fr6 := fr5.uA ht6 (by simp)
  have w5 := ht6
  have e5 : tA t6 69 1 = tA t 69 1 := by rw [w5, tA_uA, if_neg (by omega), w4, tA_uA, if_neg (by omega), w3, tA_uA, if_neg (by omega), w2, tA_uA, if_neg (by omega), w1, tA_uA, if_neg (by omega)]
  refine w_aload rfl ?_
  refine w_getR (g_68_0 _) ?_
  refine w_push kc_1 ?_
  refine w_dup2 ?_
  refine w_iald (i := 1) (ai_69 _) (by omega) (by omega) (ax_69 nr_1) ok6 (fun z7 hz7 hl7 hh7 => ?_)
  refine w_push kc_1 ?_
  refine w_add ?_
  refine w_iast (i := 1) (ai_69 _) rfl (by omega) (by omega) (ax_69 nr_1) ok6 (by omega) (fun t8 ht8 ok8 => ?_)
  have fr8 := fr6.uA ht8 (by simp)
  have w6 := ht8
  refine w_iload rfl ?_
  refine w_retI rfl ?_
  exact ⟨ok8, fr8, (by omega), (by rw [w6, tA_uA, if_pos ⟨rfl, rfl⟩]; omega), (by rw [w6, tA_uA, if_neg (by omega), w5, tA_uA, if_neg (by omega), w4, tA_uA, if_neg (by omega), w3, tA_uA, if_neg (by omega), w2, tA_uA, if_neg (by omega), w1, tA_uA, if_pos (by omega)]), (by rw [w6, tA_uA, if_neg (by omega), w5, tA_uA, if_neg (by omega), w4, tA_uA, if_neg (by omega), w3, tA_uA, if_neg (by omega), w2, tA_uA, if_pos (by omega)]), (by rw [w6, tA_uA, if_neg (by omega), w5, tA_uA, if_neg (by omega), w4, tA_uA, if_neg (by omega), w3, tA_uA, if_pos (by omega)]), (by intro i h1 h2; rw [w6, tA_uA, if_neg (by omega), w5, tA_uA, if_neg (by omega), w4, tA_uA, if_neg (by omega), w3, tA_uA, if_neg (by omega), w2, tA_uA, if_neg (by omega), w1, tA_uA, if_neg (by omega)]), (by rw [w6, tA_uA, if_neg (by omega), w5, tA_uA, if_neg (by omega), w4, tA_uA, if_pos (by omega)]), (by rw [w6, tA_uA, if_neg (by omega), w5, tA_uA, if_pos (by omega)])⟩
set_option maxRecDepth 100000 in
set_option maxHeartbeats 4000000 in
theorem e_X9_stone {d : Nat} {t : TS} {k l r : Int}  (ok : OK t) (q0 : -2147483648 ≤ k) (q1 : k ≤ 2147483647) (q2 : -2147483648 ≤ l) (q3 : l ≤ 2147483647) (q4 : -2147483648 ≤ r) (q5 : r ≤ 2147483647) : CI (EX FU (d + 2)) 138 [.ref 68, .int (jI k), .int (jI l), .int (jI r)] (mk t) (fun z t' => OK t' ∧ Fr [(69, 100)] t t' ∧ (((¬ (0 ≤ k ∧ k ≤ 5 ∧ 0 ≤ l ∧ l ≤ 6 ∧ 0 ≤ r ∧ r ≤ 6)) ∧ z = (-1000000001) ∧ t' = t) ∨ ((0 ≤ k ∧ k ≤ 5 ∧ 0 ≤ l ∧ l ≤ 6 ∧ 0 ≤ r ∧ r ≤ 6) ∧ (tA t 69 1 = 12) ∧ z = (-1000000003) ∧ t' = t) ∨ ((0 ≤ k ∧ k ≤ 5 ∧ 0 ≤ l ∧ l ≤ 6 ∧ 0 ≤ r ∧ r ≤ 6) ∧ (tA t 69 1 < 12) ∧ z = tA t 69 1 ∧ (tA t' 69 1 = tA t 69 1 + 1) ∧ (tA t' 69 (29 + 5 * (tA t 69 1).toNat) = k) ∧ (tA t' 69 (30 + 5 * (tA t 69 1).toNat) = l) ∧ (tA t' 69 (31 + 5 * (tA t 69 1).toNat) = r) ∧ (∀ i, ¬ i = 1 → (i < 29 + 5 * (tA t 69 1).toNat ∨ 34 + 5 * (tA t 69 1).toNat ≤ i) → tA t' 69 i = tA t 69 i) ∧ (tA t' 69 (32 + 5 * (tA t 69 1).toNat) = 12) ∧ (tA t' 69 (33 + 5 * (tA t 69 1).toNat) = 0)))) := by
  refine CI_ent (d := d + 1) (Bk := bX9_stone) (nL := 4) rfl rfl rfl (Nat.le_of_ble_eq_true rfl) ?_
  show Rn _ 1000000 0 [some (.ref 68), some (.int (jI k)), some (.int (jI l)), some (.int (jI r))] [] _ _
  have fr : Fr [(69, 100)] t t := Fr.rf _ _
  have hn0 := (ok.a (ax_69 nr_1)).1
  have hn1 := (ok.a (ax_69 nr_1)).2
  refine w_step rfl ?_
  refine w_iload rfl ?_
  refine w_push kc_0 ?_
  refine w_push kc_5 ?_
  refine w_callS3I rfl (c_X9_in ok (by omega) (by omega) (by omega) (by omega) (by omega) (by omega)) ?_
  rintro z1 t1 ⟨rfl, hp1_0⟩
  rcases hp1_0 with ⟨rfl, hp1_0⟩ | ⟨rfl, hp1_0⟩
  · skip
    refine w_ieq (by omega) (fun _ => ?_) (fun h => absurd (by omega) h)
    refine w_step rfl ?_
    refine w_push kc_m1000000001 ?_
    refine w_retI rfl ?_
    exact ⟨ok, fr, (by first | (exact Or.inl ⟨by omega, by first | omega | (subst_vars; rfl), rfl⟩) | (exact Or.inr (Or.inl ⟨by omega, by omega, by first | omega | (subst_vars; rfl), rfl⟩)) | (exact Or.inr (Or.inr (⟨by omega, by omega, by first | omega | (subst_vars; rfl), e1, e2, e3, e4, e5, e6, e7⟩))))⟩
  refine w_ieq (by omega) (fun h => absurd h (by omega)) (fun _ => ?_)
  refine w_iload rfl ?_
  refine w_push kc_0 ?_
  refine w_push kc_6 ?_
  refine w_callS3I rfl (c_X9_in ok (by omega) (by omega) (by omega) (by omega) (by omega) (by omega)) ?_
  rintro z2 t2 ⟨rfl, hp2_0⟩
  rcases hp2_0 with ⟨rfl, hp2_0⟩ | ⟨rfl, hp2_0⟩
  · skip
    refine w_ieq (by omega) (fun _ => ?_) (fun h => absurd (by omega) h)
    refine w_step rfl ?_
    refine w_push kc_m1000000001 ?_
    refine w_retI rfl ?_
    exact ⟨ok, fr, (by first | (exact Or.inl ⟨by omega, by first | omega | (subst_vars; rfl), rfl⟩) | (exact Or.inr (Or.inl ⟨by omega, by omega, by first | omega | (subst_vars; rfl), rfl⟩)) | (exact Or.inr (Or.inr (⟨by omega, by omega, by first | omega | (subst_vars; rfl), e1, e2, e3, e4, e5, e6, e7⟩))))⟩
  refine w_ieq (by omega) (fun h => absurd h (by omega)) (fun _ => ?_)
  refine w_iload rfl ?_
  refine w_push kc_0 ?_
  refine w_push kc_6 ?_
  refine w_callS3I rfl (c_X9_in ok (by omega) (by omega) (by omega) (by omega) (by omega) (by omega)) ?_
  rintro z3 t3 ⟨rfl, hp3_0⟩
  rcases hp3_0 with ⟨rfl, hp3_0⟩ | ⟨rfl, hp3_0⟩
  · skip
    refine w_ine (by omega) (fun h => absurd h (by omega)) (fun _ => ?_)
    refine w_goto ?_
    refine w_step rfl ?_
    refine w_push kc_m1000000001 ?_
    refine w_retI rfl ?_
    exact ⟨ok, fr, (by first | (exact Or.inl ⟨by omega, by first | omega | (subst_vars; rfl), rfl⟩) | (exact Or.inr (Or.inl ⟨by omega, by omega, by first | omega | (subst_vars; rfl), rfl⟩)) | (exact Or.inr (Or.inr (⟨by omega, by omega, by first | omega | (subst_vars; rfl), e1, e2, e3, e4, e5, e6, e7⟩))))⟩
  refine w_ine (by omega) (fun _ => ?_) (fun h => absurd (by omega) h)
  refine w_step rfl ?_
  refine w_aload rfl ?_
  refine w_getR (g_68_0 _) ?_
  refine w_push kc_1 ?_
  refine w_iald (i := 1) (ai_69 _) (by omega) (by omega) (ax_69 nr_1) ok (fun z4 hz4 hl4 hh4 => ?_)
  refine w_push kc_12 ?_
  refine w_cne (by omega) (fun h5 => ?_) (fun h5 => ?_)
  · skip
    refine w_step rfl ?_
    refine w_aload rfl ?_
    refine w_iload rfl ?_
    refine w_iload rfl ?_
    refine w_iload rfl ?_
    refine w_callV3I (oj_68 _).choose_spec rfl (e_X9_comes ok (by omega) (by omega) (by omega) (by omega) (by omega) (by omega) (by omega)) ?_
    rintro z6 t6 ⟨ok6, fq6, hp6_0, hp6_1, hp6_2, hp6_3, hp6_4, hp6_5, hp6_6, hp6_7⟩
    have fr6 := fr.then fq6 (by simp)
    have e0 := hp6_0
    have e1 := hp6_1
    have e2 := hp6_2
    have e3 := hp6_3
    have e4 := hp6_4
    have e5 := hp6_5
    have e6 := hp6_6
    have e7 := hp6_7
    refine w_goto ?_
    refine w_step rfl ?_
    refine w_retI rfl ?_
    exact ⟨ok6, fr6, (by first | (exact Or.inl ⟨by omega, by first | omega | (subst_vars; rfl), rfl⟩) | (exact Or.inr (Or.inl ⟨by omega, by omega, by first | omega | (subst_vars; rfl), rfl⟩)) | (exact Or.inr (Or.inr (⟨by omega, by omega, by first | omega | (subst_vars; rfl), e1, e2, e3, e4, e5, e6, e7⟩))))⟩
  refine w_push kc_m1000000003 ?_
  refine w_goto ?_
  refine w_step rfl ?_
  refine w_retI rfl ?_
  exact ⟨ok, fr, (by first | (exact Or.inl ⟨by omega, by first | omega | (subst_vars; rfl), rfl⟩) | (exact Or.inr (Or.inl ⟨by omega, by omega, by first | omega | (subst_vars; rfl), rfl⟩)) | (exact Or.inr (Or.inr (⟨by omega, by omega, by first | omega | (subst_vars; rfl), e1, e2, e3, e4, e5, e6, e7⟩))))⟩
set_option maxRecDepth 100000 in
set_option maxHeartbeats 4000000 in
theorem e_X9_told {d : Nat} {t : TS} {s w : Int}  (ok : OK t) (q0 : -2147483648 ≤ s) (q1 : s ≤ 2147483647) (q2 : -2147483648 ≤ w) (q3 : w ≤ 2147483647) : CI (EX FU (d + 3)) 141 [.ref 68, .int (jI s), .int (jI w)] (mk t) (fun z t' => t = t' ∧ (((¬ (0 ≤ s ∧ s ≤ tA t 69 1 - 1) ∨ ¬ (0 ≤ w ∧ w ≤ 6)) ∧ z = (-1000000001)) ∨ ((0 ≤ s ∧ s ≤ tA t 69 1 - 1) ∧ (0 ≤ w ∧ w ≤ 4) ∧ z = tA t 69 (29 + 5 * s.toNat + w.toNat)) ∨ ((0 ≤ s ∧ s ≤ tA t 69 1 - 1) ∧ (w = 5) ∧ z = hvA t 69 s.toNat) ∨ ((0 ≤ s ∧ s ≤ tA t 69 1 - 1) ∧ (w = 6) ∧ z = woF (tA t 69 (29 + 5 * s.toNat)) (tA t 69 (30 + 5 * s.toNat)) (tA t 69 (31 + 5 * s.toNat))))) := by
  refine CI_ent (d := d + 2) (Bk := bX9_told) (nL := 3) rfl rfl rfl (Nat.le_of_ble_eq_true rfl) ?_
  show Rn _ 1000000 0 [some (.ref 68), some (.int (jI s)), some (.int (jI w))] [] _ _
  have hn0 := (ok.a (ax_69 nr_1)).1
  have hn1 := (ok.a (ax_69 nr_1)).2
  refine w_step rfl ?_
  refine w_aload rfl ?_
  refine w_iload rfl ?_
  refine w_callV1I (oj_68 _).choose_spec rfl (c_X9_isStone ok (by omega) (by omega)) ?_
  rintro z1 t1 ⟨rfl, hp1_0⟩
  rcases hp1_0 with ⟨rfl, hp1_0⟩ | ⟨rfl, hp1_0⟩
  · skip
    refine w_ieq (by omega) (fun _ => ?_) (fun h => absurd (by omega) h)
    refine w_step rfl ?_
    refine w_push kc_m1000000001 ?_
    refine w_retI rfl ?_
    exact ⟨rfl, (by first | (exact Or.inl ⟨by omega, by first | omega | (subst_vars; rfl)⟩) | (exact Or.inr (Or.inl ⟨by omega, by omega, by omega⟩)) | (exact Or.inr (Or.inr (Or.inl ⟨by omega, by omega, by omega⟩))) | (exact Or.inr (Or.inr (Or.inr (⟨by omega, by omega, by omega⟩)))))⟩
  refine w_ieq (by omega) (fun h => absurd h (by omega)) (fun _ => ?_)
  refine w_iload rfl ?_
  refine w_push kc_0 ?_
  refine w_push kc_6 ?_
  refine w_callS3I rfl (c_X9_in ok (by omega) (by omega) (by omega) (by omega) (by omega) (by omega)) ?_
  rintro z2 t2 ⟨rfl, hp2_0⟩
  rcases hp2_0 with ⟨rfl, hp2_0⟩ | ⟨rfl, hp2_0⟩
  · skip
    refine w_ine (by omega) (fun h => absurd h (by omega)) (fun _ => ?_)
    refine w_goto ?_
    refine w_step rfl ?_
    refine w_push kc_m1000000001 ?_
    refine w_retI rfl ?_
    exact ⟨rfl, (by first | (exact Or.inl ⟨by omega, by first | omega | (subst_vars; rfl)⟩) | (exact Or.inr (Or.inl ⟨by omega, by omega, by omega⟩)) | (exact Or.inr (Or.inr (Or.inl ⟨by omega, by omega, by omega⟩))) | (exact Or.inr (Or.inr (Or.inr (⟨by omega, by omega, by omega⟩)))))⟩
  refine w_ine (by omega) (fun _ => ?_) (fun h => absurd (by omega) h)
  refine w_step rfl ?_
  refine w_iload rfl ?_
  refine w_push kc_5 ?_
  refine w_cge (by omega) (fun h3 => ?_) (fun h3 => ?_)
  · skip
    refine w_step rfl ?_
    refine w_iload rfl ?_
    refine w_push kc_5 ?_
    refine w_cne (by omega) (fun h4 => ?_) (fun h4 => ?_)
    · skip
      refine w_step rfl ?_
      refine w_aload rfl ?_
      refine w_iload rfl ?_
      refine w_callV1I (oj_68 _).choose_spec rfl (c_X9_worthOf ok (by omega) (by omega)) ?_
      rintro z5 t5 ⟨rfl, hp5_0, hp5_1, hp5_2⟩
      have ew : z5 = woF (tA t 69 (29 + 5 * s.toNat)) (tA t 69 (30 + 5 * s.toNat)) (tA t 69 (31 + 5 * s.toNat)) := by
        rw [hp5_0]
        congr 2 <;> omega
      refine w_goto ?_
      refine w_step rfl ?_
      refine w_retI rfl ?_
      exact ⟨rfl, (by first | (exact Or.inl ⟨by omega, by first | omega | (subst_vars; rfl)⟩) | (exact Or.inr (Or.inl ⟨by omega, by omega, by omega⟩)) | (exact Or.inr (Or.inr (Or.inl ⟨by omega, by omega, by omega⟩))) | (exact Or.inr (Or.inr (Or.inr (⟨by omega, by omega, by omega⟩)))))⟩
    refine w_aload rfl ?_
    refine w_iload rfl ?_
    refine w_callV1I (oj_68 _).choose_spec rfl (c_X9_heavyOf ok (by omega) (by omega)) ?_
    rintro z6 t6 ⟨rfl, hp6_0, hp6_1, hp6_2⟩
    have eh : z6 = hvA t 69 s.toNat := by
      rw [hp6_0]
      unfold hvA
      congr 2 <;> omega
    refine w_goto ?_
    refine w_step rfl ?_
    refine w_retI rfl ?_
    exact ⟨rfl, (by first | (exact Or.inl ⟨by omega, by first | omega | (subst_vars; rfl)⟩) | (exact Or.inr (Or.inl ⟨by omega, by omega, by omega⟩)) | (exact Or.inr (Or.inr (Or.inl ⟨by omega, by omega, by omega⟩))) | (exact Or.inr (Or.inr (Or.inr (⟨by omega, by omega, by omega⟩)))))⟩
  refine w_aload rfl ?_
  refine w_iload rfl ?_
  refine w_iload rfl ?_
  refine w_callV2I (oj_68 _).choose_spec rfl (c_X9_of ok (by omega) (by omega) (by omega) (by omega)) ?_
  rintro z7 t7 ⟨rfl, hp7_0, hp7_1, hp7_2⟩
  have eo : z7 = tA t 69 (29 + 5 * s.toNat + w.toNat) := by
    rw [hp7_0]
    congr 1
    omega
  refine w_goto ?_
  refine w_step rfl ?_
  refine w_retI rfl ?_
  exact ⟨rfl, (by first | (exact Or.inl ⟨by omega, by first | omega | (subst_vars; rfl)⟩) | (exact Or.inr (Or.inl ⟨by omega, by omega, by omega⟩)) | (exact Or.inr (Or.inr (Or.inl ⟨by omega, by omega, by omega⟩))) | (exact Or.inr (Or.inr (Or.inr (⟨by omega, by omega, by omega⟩)))))⟩
set_option maxRecDepth 100000 in
set_option maxHeartbeats 4000000 in
theorem e_X9_off {d : Nat} {t : TS} {s p u : Int}  (ok : OK t) (q0 : WF t 69) (q1 : NZ t 69) (q2 : -2147483648 ≤ s) (q3 : s ≤ 2147483647) (q4 : -2147483648 ≤ p) (q5 : p ≤ 2147483647) (q6 : -2147483648 ≤ u) (q7 : u ≤ 2147483647) : CI (EX FU (d + 5)) 145 [.ref 68, .int (jI s), .int (jI p), .int (jI u)] (mk t) (fun z t' => OK t' ∧ Fr [(81, 100), (82, 100)] t t' ∧ (((¬ (0 ≤ s ∧ s ≤ tA t 69 1 - 1 ∧ 0 ≤ p ∧ p ≤ 11 ∧ 0 ≤ u ∧ u ≤ 1)) ∧ z = (-1000000001)) ∨ ((0 ≤ s ∧ s ≤ tA t 69 1 - 1 ∧ 0 ≤ p ∧ p ≤ 11 ∧ 0 ≤ u ∧ u ≤ 1) ∧ z = OA t 69 s.toNat p.toNat u.toNat))) := by
  refine CI_ent (d := d + 4) (Bk := bX9_off) (nL := 4) rfl rfl rfl (Nat.le_of_ble_eq_true rfl) ?_
  show Rn _ 1000000 0 [some (.ref 68), some (.int (jI s)), some (.int (jI p)), some (.int (jI u))] [] _ _
  have fr : Fr [(81, 100), (82, 100)] t t := Fr.rf _ _
  have hn0 := (ok.a (ax_69 nr_1)).1
  have hn1 := (ok.a (ax_69 nr_1)).2
  refine w_step rfl ?_
  refine w_aload rfl ?_
  refine w_iload rfl ?_
  refine w_callV1I (oj_68 _).choose_spec rfl (c_X9_isStone ok (by omega) (by omega)) ?_
  rintro z1 t1 ⟨rfl, hp1_0⟩
  rcases hp1_0 with ⟨rfl, hp1_0⟩ | ⟨rfl, hp1_0⟩
  · skip
    refine w_ieq (by omega) (fun _ => ?_) (fun h => absurd (by omega) h)
    refine w_step rfl ?_
    refine w_push kc_m1000000001 ?_
    refine w_goto ?_
    refine w_step rfl ?_
    refine w_retI rfl ?_
    exact ⟨ok, fr, (by first | (exact Or.inl ⟨by omega, by first | omega | (subst_vars; rfl)⟩) | (exact Or.inr (⟨by omega, by omega⟩)))⟩
  refine w_ieq (by omega) (fun h => absurd h (by omega)) (fun _ => ?_)
  refine w_iload rfl ?_
  refine w_callS1I rfl (c_X9_isPlace ok (by omega) (by omega)) ?_
  rintro z2 t2 ⟨rfl, hp2_0⟩
  rcases hp2_0 with ⟨rfl, hp2_0⟩ | ⟨rfl, hp2_0⟩
  · skip
    refine w_ieq (by omega) (fun _ => ?_) (fun h => absurd (by omega) h)
    refine w_step rfl ?_
    refine w_push kc_m1000000001 ?_
    refine w_goto ?_
    refine w_step rfl ?_
    refine w_retI rfl ?_
    exact ⟨ok, fr, (by first | (exact Or.inl ⟨by omega, by first | omega | (subst_vars; rfl)⟩) | (exact Or.inr (⟨by omega, by omega⟩)))⟩
  refine w_ieq (by omega) (fun h => absurd h (by omega)) (fun _ => ?_)
  refine w_iload rfl ?_
  refine w_push kc_0 ?_
  refine w_push kc_1 ?_
  refine w_callS3I rfl (c_X9_in ok (by omega) (by omega) (by omega) (by omega) (by omega) (by omega)) ?_
  rintro z3 t3 ⟨rfl, hp3_0⟩
  rcases hp3_0 with ⟨rfl, hp3_0⟩ | ⟨rfl, hp3_0⟩
  · skip
    refine w_ieq (by omega) (fun _ => ?_) (fun h => absurd (by omega) h)
    refine w_step rfl ?_
    refine w_push kc_m1000000001 ?_
    refine w_goto ?_
    refine w_step rfl ?_
    refine w_retI rfl ?_
    exact ⟨ok, fr, (by first | (exact Or.inl ⟨by omega, by first | omega | (subst_vars; rfl)⟩) | (exact Or.inr (⟨by omega, by omega⟩)))⟩
  refine w_ieq (by omega) (fun h => absurd h (by omega)) (fun _ => ?_)
  refine w_aload rfl ?_
  refine w_iload rfl ?_
  refine w_iload rfl ?_
  refine w_iload rfl ?_
  refine w_callV3I (oj_68 _).choose_spec rfl (e_X9_offOf ok q0 (by omega) (by omega) (by omega) (by omega) (by omega) (by omega) (by omega)) ?_
  rintro z4 t4 ⟨ok4, fq4, hp4_0, hp4_1, hp4_2⟩
  have fr4 := fr.then fq4 (by simp)
  have wf4 := q0.fr fq4 (by simp)
  refine w_goto ?_
  refine w_step rfl ?_
  refine w_retI rfl ?_
  exact ⟨ok4, fr4, (by first | (exact Or.inl ⟨by omega, by first | omega | (subst_vars; rfl)⟩) | (exact Or.inr (⟨by omega, by omega⟩)))⟩
set_option maxRecDepth 100000 in
set_option maxHeartbeats 4000000 in
theorem e_X9_put {d : Nat} {t : TS} {s p u : Int}  (ok : OK t) (q0 : -2147483648 ≤ s) (q1 : s ≤ 2147483647) (q2 : -2147483648 ≤ p) (q3 : p ≤ 2147483647) (q4 : -2147483648 ≤ u) (q5 : u ≤ 2147483647) : CI (EX FU (d + 3)) 150 [.ref 68, .int (jI s), .int (jI p), .int (jI u)] (mk t) (fun z t' => OK t' ∧ Fr [(69, 100)] t t' ∧ (((¬ (0 ≤ s ∧ s ≤ tA t 69 1 - 1 ∧ 0 ≤ p ∧ p ≤ 11 ∧ 0 ≤ u ∧ u ≤ 1)) ∧ z = (-1000000001) ∧ (∀ i, tA t' 69 i = tA t 69 i)) ∨ ((0 ≤ s ∧ s ≤ tA t 69 1 - 1 ∧ 0 ≤ p ∧ p ≤ 11 ∧ 0 ≤ u ∧ u ≤ 1) ∧ (¬ RHp t p = -1) ∧ (¬ RHp t p = s) ∧ z = (-1000000002) ∧ (∀ i, tA t' 69 i = tA t 69 i)) ∨ ((0 ≤ s ∧ s ≤ tA t 69 1 - 1 ∧ 0 ≤ p ∧ p ≤ 11 ∧ 0 ≤ u ∧ u ≤ 1) ∧ (RHp t p = -1 ∨ RHp t p = s) ∧ z = tA t 69 (32 + 5 * s.toNat) ∧ (∀ i, tA t' 69 i = if i = 32 + 5 * s.toNat then p else if i = 33 + 5 * s.toNat then u else tA t 69 i)))) := by
  refine CI_ent (d := d + 2) (Bk := bX9_put) (nL := 5) rfl rfl rfl (Nat.le_of_ble_eq_true rfl) ?_
  show Rn _ 1000000 0 [some (.ref 68), some (.int (jI s)), some (.int (jI p)), some (.int (jI u)), none] [] _ _
  have fr : Fr [(69, 100)] t t := Fr.rf _ _
  have hn0 := (ok.a (ax_69 nr_1)).1
  have hn1 := (ok.a (ax_69 nr_1)).2
  refine w_step rfl ?_
  refine w_aload rfl ?_
  refine w_iload rfl ?_
  refine w_callV1I (oj_68 _).choose_spec rfl (c_X9_isStone ok (by omega) (by omega)) ?_
  rintro z1 t1 ⟨rfl, hp1_0⟩
  rcases hp1_0 with ⟨rfl, hp1_0⟩ | ⟨rfl, hp1_0⟩
  · skip
    refine w_ieq (by omega) (fun _ => ?_) (fun h => absurd (by omega) h)
    refine w_step rfl ?_
    refine w_push kc_m1000000001 ?_
    refine w_retI rfl ?_
    exact ⟨ok, fr, (by first | (exact Or.inl ⟨by omega, by first | omega | (subst_vars; rfl), fun _ => rfl⟩) | (exact Or.inr (Or.inl ⟨by omega, by omega, by omega, by first | omega | (subst_vars; rfl), fun _ => rfl⟩)) | (exact Or.inr (Or.inr (⟨by omega, by omega, by omega, by intro i; rw [w2, tA_uA, w1, tA_uA, show (29 + 5 * s + 3).toNat = 32 + 5 * s.toNat by omega, show (29 + 5 * s + 4).toNat = 33 + 5 * s.toNat by omega]; simp⟩))))⟩
  refine w_ieq (by omega) (fun h => absurd h (by omega)) (fun _ => ?_)
  refine w_iload rfl ?_
  refine w_callS1I rfl (c_X9_isPlace ok (by omega) (by omega)) ?_
  rintro z2 t2 ⟨rfl, hp2_0⟩
  rcases hp2_0 with ⟨rfl, hp2_0⟩ | ⟨rfl, hp2_0⟩
  · skip
    refine w_ieq (by omega) (fun _ => ?_) (fun h => absurd (by omega) h)
    refine w_step rfl ?_
    refine w_push kc_m1000000001 ?_
    refine w_retI rfl ?_
    exact ⟨ok, fr, (by first | (exact Or.inl ⟨by omega, by first | omega | (subst_vars; rfl), fun _ => rfl⟩) | (exact Or.inr (Or.inl ⟨by omega, by omega, by omega, by first | omega | (subst_vars; rfl), fun _ => rfl⟩)) | (exact Or.inr (Or.inr (⟨by omega, by omega, by omega, by intro i; rw [w2, tA_uA, w1, tA_uA, show (29 + 5 * s + 3).toNat = 32 + 5 * s.toNat by omega, show (29 + 5 * s + 4).toNat = 33 + 5 * s.toNat by omega]; simp⟩))))⟩
  refine w_ieq (by omega) (fun h => absurd h (by omega)) (fun _ => ?_)
  refine w_iload rfl ?_
  refine w_push kc_0 ?_
  refine w_push kc_1 ?_
  refine w_callS3I rfl (c_X9_in ok (by omega) (by omega) (by omega) (by omega) (by omega) (by omega)) ?_
  rintro z3 t3 ⟨rfl, hp3_0⟩
  rcases hp3_0 with ⟨rfl, hp3_0⟩ | ⟨rfl, hp3_0⟩
  · skip
    refine w_ine (by omega) (fun h => absurd h (by omega)) (fun _ => ?_)
    refine w_goto ?_
    refine w_step rfl ?_
    refine w_push kc_m1000000001 ?_
    refine w_retI rfl ?_
    exact ⟨ok, fr, (by first | (exact Or.inl ⟨by omega, by first | omega | (subst_vars; rfl), fun _ => rfl⟩) | (exact Or.inr (Or.inl ⟨by omega, by omega, by omega, by first | omega | (subst_vars; rfl), fun _ => rfl⟩)) | (exact Or.inr (Or.inr (⟨by omega, by omega, by omega, by intro i; rw [w2, tA_uA, w1, tA_uA, show (29 + 5 * s + 3).toNat = 32 + 5 * s.toNat by omega, show (29 + 5 * s + 4).toNat = 33 + 5 * s.toNat by omega]; simp⟩))))⟩
  refine w_ine (by omega) (fun _ => ?_) (fun h => absurd (by omega) h)
  refine w_step rfl ?_
  refine w_aload rfl ?_
  refine w_iload rfl ?_
  refine w_callV1I (oj_68 _).choose_spec rfl (e_X9_holder ok (by omega) (by omega)) ?_
  rintro z4 t4 ⟨rfl, hp4_0, hp4_1, hp4_2⟩
  have eh := hp4_2
  have hrb := rh_b t p
  unfold RN at hrb
  refine w_istore (lv' := [some (.ref 68), some (.int (jI s)), some (.int (jI p)), some (.int (jI u)), some (.int (jI z4))]) rfl ?_
  refine w_iload rfl ?_
  refine w_ilt (by omega) (fun h5 => ?_) (fun h5 => ?_)
  · skip
    refine w_step rfl ?_
    refine w_aload rfl ?_
    refine w_getR (g_68_0 _) ?_
    refine w_push kc_29 ?_
    refine w_push kc_5 ?_
    refine w_iload rfl ?_
    refine w_mul ?_
    refine w_add ?_
    refine w_push kc_4 ?_
    refine w_add ?_
    refine w_iload rfl ?_
    refine w_iast (i := (((29 + (5 * s)) + 4)).toNat) (ai_69 _) rfl (by omega) (by omega) (ax_69 (nr_S4 (s := s.toNat) (by omega))) ok (by omega) (fun t6 ht6 ok6 => ?_)
    have fr6 := fr.uA ht6 (by simp)
    have w1 := ht6
    refine w_aload rfl ?_
    refine w_push kc_29 ?_
    refine w_push kc_5 ?_
    refine w_iload rfl ?_
    refine w_mul ?_
    refine w_add ?_
    refine w_push kc_3 ?_
    refine w_add ?_
    refine w_iload rfl ?_
    refine w_callV2I (oj_68 _).choose_spec rfl (c_X9_becomes ok6 (by omega) (by omega) ⟨_, _, nr_S3 (s := s.toNat) (by omega), by omega, by omega⟩) ?_
    rintro z7 t7 ⟨ok7, fq7, hp7_0, hp7_1, hp7_2, hp7_3⟩
    have fr7 := fr6.then fq7 (by simp)
    have w2 := hp7_1
    have wz : z7 = tA t 69 (32 + 5 * s.toNat) := by
      rw [hp7_0, w1, tA_uA, if_neg (by omega)]
      congr 1
      omega
    refine w_retI rfl ?_
    exact ⟨ok7, fr7, (by first | (exact Or.inl ⟨by omega, by first | omega | (subst_vars; rfl), fun _ => rfl⟩) | (exact Or.inr (Or.inl ⟨by omega, by omega, by omega, by first | omega | (subst_vars; rfl), fun _ => rfl⟩)) | (exact Or.inr (Or.inr (⟨by omega, by omega, by omega, by intro i; rw [w2, tA_uA, w1, tA_uA, show (29 + 5 * s + 3).toNat = 32 + 5 * s.toNat by omega, show (29 + 5 * s + 4).toNat = 33 + 5 * s.toNat by omega]; simp⟩))))⟩
  refine w_iload rfl ?_
  refine w_iload rfl ?_
  refine w_ceq (by omega) (fun h8 => ?_) (fun h8 => ?_)
  · skip
    refine w_step rfl ?_
    refine w_aload rfl ?_
    refine w_getR (g_68_0 _) ?_
    refine w_push kc_29 ?_
    refine w_push kc_5 ?_
    refine w_iload rfl ?_
    refine w_mul ?_
    refine w_add ?_
    refine w_push kc_4 ?_
    refine w_add ?_
    refine w_iload rfl ?_
    refine w_iast (i := (((29 + (5 * s)) + 4)).toNat) (ai_69 _) rfl (by omega) (by omega) (ax_69 (nr_S4 (s := s.toNat) (by omega))) ok (by omega) (fun t9 ht9 ok9 => ?_)
    have fr9 := fr.uA ht9 (by simp)
    have w1 := ht9
    refine w_aload rfl ?_
    refine w_push kc_29 ?_
    refine w_push kc_5 ?_
    refine w_iload rfl ?_
    refine w_mul ?_
    refine w_add ?_
    refine w_push kc_3 ?_
    refine w_add ?_
    refine w_iload rfl ?_
    refine w_callV2I (oj_68 _).choose_spec rfl (c_X9_becomes ok9 (by omega) (by omega) ⟨_, _, nr_S3 (s := s.toNat) (by omega), by omega, by omega⟩) ?_
    rintro z10 t10 ⟨ok10, fq10, hp10_0, hp10_1, hp10_2, hp10_3⟩
    have fr10 := fr9.then fq10 (by simp)
    have w2 := hp10_1
    have wz : z10 = tA t 69 (32 + 5 * s.toNat) := by
      rw [hp10_0, w1, tA_uA, if_neg (by omega)]
      congr 1
      omega
    refine w_retI rfl ?_
    exact ⟨ok10, fr10, (by first | (exact Or.inl ⟨by omega, by first | omega | (subst_vars; rfl), fun _ => rfl⟩) | (exact Or.inr (Or.inl ⟨by omega, by omega, by omega, by first | omega | (subst_vars; rfl), fun _ => rfl⟩)) | (exact Or.inr (Or.inr (⟨by omega, by omega, by omega, by intro i; rw [w2, tA_uA, w1, tA_uA, show (29 + 5 * s + 3).toNat = 32 + 5 * s.toNat by omega, show (29 + 5 * s + 4).toNat = 33 + 5 * s.toNat by omega]; simp⟩))))⟩
  refine w_push kc_m1000000002 ?_
  refine w_retI rfl ?_
  exact ⟨ok, fr, (by first | (exact Or.inl ⟨by omega, by first | omega | (subst_vars; rfl), fun _ => rfl⟩) | (exact Or.inr (Or.inl ⟨by omega, by omega, by omega, by first | omega | (subst_vars; rfl), fun _ => rfl⟩)) | (exact Or.inr (Or.inr (⟨by omega, by omega, by omega, by intro i; rw [w2, tA_uA, w1, tA_uA, show (29 + 5 * s + 3).toNat = 32 + 5 * s.toNat by omega, show (29 + 5 * s + 4).toNat = 33 + 5 * s.toNat by omega]; simp⟩))))⟩
set_option maxRecDepth 100000 in
set_option maxHeartbeats 4000000 in
theorem e_X9_box {d : Nat} {t : TS} {s : Int}  (ok : OK t) (q0 : -2147483648 ≤ s) (q1 : s ≤ 2147483647) : CI (EX FU (d + 3)) 151 [.ref 68, .int (jI s)] (mk t) (fun z t' => OK t' ∧ Fr [(69, 100)] t t' ∧ (((¬ (0 ≤ s ∧ s ≤ tA t 69 1 - 1)) ∧ z = (-1000000001) ∧ (∀ i, tA t' 69 i = tA t 69 i)) ∨ ((0 ≤ s ∧ s ≤ tA t 69 1 - 1) ∧ z = tA t 69 (32 + 5 * s.toNat) ∧ (∀ i, tA t' 69 i = if i = 32 + 5 * s.toNat then 12 else tA t 69 i)))) := by
  refine CI_ent (d := d + 2) (Bk := bX9_box) (nL := 2) rfl rfl rfl (Nat.le_of_ble_eq_true rfl) ?_
  show Rn _ 1000000 0 [some (.ref 68), some (.int (jI s))] [] _ _
  have fr : Fr [(69, 100)] t t := Fr.rf _ _
  have hn0 := (ok.a (ax_69 nr_1)).1
  have hn1 := (ok.a (ax_69 nr_1)).2
  refine w_step rfl ?_
  refine w_aload rfl ?_
  refine w_iload rfl ?_
  refine w_callV1I (oj_68 _).choose_spec rfl (c_X9_isStone ok (by omega) (by omega)) ?_
  rintro z1 t1 ⟨rfl, hp1_0⟩
  rcases hp1_0 with ⟨rfl, hp1_0⟩ | ⟨rfl, hp1_0⟩
  · skip
    refine w_ieq (by omega) (fun _ => ?_) (fun h => absurd (by omega) h)
    refine w_step rfl ?_
    refine w_push kc_m1000000001 ?_
    refine w_goto ?_
    refine w_step rfl ?_
    refine w_retI rfl ?_
    exact ⟨ok, fr, (by first | (exact Or.inl ⟨by omega, by first | omega | (subst_vars; rfl), fun _ => rfl⟩) | (exact Or.inr (⟨by omega, by omega, by intro i; rw [w2, tA_uA, show (29 + 5 * s + 3).toNat = 32 + 5 * s.toNat by omega]; simp⟩)))⟩
  refine w_ieq (by omega) (fun h => absurd h (by omega)) (fun _ => ?_)
  refine w_aload rfl ?_
  refine w_push kc_29 ?_
  refine w_push kc_5 ?_
  refine w_iload rfl ?_
  refine w_mul ?_
  refine w_add ?_
  refine w_push kc_3 ?_
  refine w_add ?_
  refine w_push kc_12 ?_
  refine w_callV2I (oj_68 _).choose_spec rfl (c_X9_becomes ok (by omega) (by omega) ⟨_, _, nr_S3 (s := s.toNat) (by omega), by omega, by omega⟩) ?_
  rintro z2 t2 ⟨ok2, fq2, hp2_0, hp2_1, hp2_2, hp2_3⟩
  have fr2 := fr.then fq2 (by simp)
  have w2 := hp2_1
  have wz : z2 = tA t 69 (32 + 5 * s.toNat) := by
    rw [hp2_0]
    congr 1
    omega
  refine w_goto ?_
  refine w_step rfl ?_
  refine w_retI rfl ?_
  exact ⟨ok2, fr2, (by first | (exact Or.inl ⟨by omega, by first | omega | (subst_vars; rfl), fun _ => rfl⟩) | (exact Or.inr (⟨by omega, by omega, by intro i; rw [w2, tA_uA, show (29 + 5 * s + 3).toNat = 32 + 5 * s.toNat by omega]; simp⟩)))⟩
set_option maxRecDepth 100000 in
set_option maxHeartbeats 4000000 in
theorem e_X9_deal {d : Nat} {t : TS} {n : Int}  (ok : OK t) (q0 : -2147483648 ≤ n) (q1 : n ≤ 2147483647) : CI (EX FU (d + 2)) 155 [.ref 68, .int (jI n)] (mk t) (fun z t' => OK t' ∧ Fr [(69, 100)] t t' ∧ (((¬ (1 ≤ n ∧ n ≤ 12)) ∧ z = (-1000000001) ∧ t' = t) ∨ ((1 ≤ n ∧ n ≤ 12) ∧ z = min n (12 - tA t 69 1) ∧ (tA t' 69 1 = tA t 69 1 + min n (12 - tA t 69 1)) ∧ (tA t' 69 0 = dzF (min n (12 - tA t 69 1)).toNat (tA t 69 0)) ∧ (∀ m : Nat, tA t' 69 (29 + 5 * m) = if tA t 69 1 ≤ (m : Int) ∧ (m : Int) < tA t 69 1 + min n (12 - tA t 69 1) then kdF (tA t 69 0) (m - (tA t 69 1).toNat) else tA t 69 (29 + 5 * m)) ∧ (∀ m : Nat, tA t' 69 (30 + 5 * m) = if tA t 69 1 ≤ (m : Int) ∧ (m : Int) < tA t 69 1 + min n (12 - tA t 69 1) then ldF (tA t 69 0) (m - (tA t 69 1).toNat) else tA t 69 (30 + 5 * m)) ∧ (∀ m : Nat, tA t' 69 (31 + 5 * m) = if tA t 69 1 ≤ (m : Int) ∧ (m : Int) < tA t 69 1 + min n (12 - tA t 69 1) then rdF (tA t 69 0) (m - (tA t 69 1).toNat) else tA t 69 (31 + 5 * m)) ∧ (∀ m : Nat, tA t' 69 (32 + 5 * m) = if tA t 69 1 ≤ (m : Int) ∧ (m : Int) < tA t 69 1 + min n (12 - tA t 69 1) then 12 else tA t 69 (32 + 5 * m)) ∧ (∀ m : Nat, tA t' 69 (33 + 5 * m) = if tA t 69 1 ≤ (m : Int) ∧ (m : Int) < tA t 69 1 + min n (12 - tA t 69 1) then 0 else tA t 69 (33 + 5 * m)) ∧ (∀ i, ¬ i = 0 → ¬ i = 1 → (i < 29 ∨ 89 ≤ i) → tA t' 69 i = tA t 69 i)))) := by
  refine CI_ent (d := d + 1) (Bk := bX9_deal) (nL := 6) rfl rfl rfl (Nat.le_of_ble_eq_true rfl) ?_
  show Rn _ 1000000 0 [some (.ref 68), some (.int (jI n)), none, none, none, none] [] _ _
  have fr : Fr [(69, 100)] t t := Fr.rf _ _
  have hn0 := (ok.a (ax_69 nr_1)).1
  have hn1 := (ok.a (ax_69 nr_1)).2
  refine w_step rfl ?_
  refine w_iload rfl ?_
  refine w_push kc_1 ?_
  refine w_push kc_12 ?_
  refine w_callS3I rfl (c_X9_in ok (by omega) (by omega) (by omega) (by omega) (by omega) (by omega)) ?_
  rintro z1 t1 ⟨rfl, hp1_0⟩
  rcases hp1_0 with ⟨rfl, hp1_0⟩ | ⟨rfl, hp1_0⟩
  · skip
    refine w_ine (by omega) (fun h => absurd h (by omega)) (fun _ => ?_)
    refine w_push kc_m1000000001 ?_
    refine w_retI rfl ?_
    exact ⟨ok, fr, (by first | (exact Or.inl ⟨by omega, by first | omega | (subst_vars; rfl), rfl⟩) | (exact Or.inr (⟨by omega, by first | omega | (subst_vars; rfl), by omega, by have e : many = min n (12 - tA t 69 1) := (by omega); rw [← e]; exact i2_4, by have e : many = min n (12 - tA t 69 1) := (by omega); rw [← e]; exact i2_5, by have e : many = min n (12 - tA t 69 1) := (by omega); rw [← e]; exact i2_6, by have e : many = min n (12 - tA t 69 1) := (by omega); rw [← e]; exact i2_7, by have e : many = min n (12 - tA t 69 1) := (by omega); rw [← e]; exact i2_9, by have e : many = min n (12 - tA t 69 1) := (by omega); rw [← e]; exact i2_10, i2_8⟩)))⟩
  refine w_ine (by omega) (fun _ => ?_) (fun h => absurd (by omega) h)
  refine w_step rfl ?_
  refine w_push kc_0 ?_
  refine w_istore (lv' := [some (.ref 68), some (.int (jI n)), some (.int (jI 0)), none, none, none]) rfl ?_
  refine w_goto ?_
  have key2 : ∀ (n2 M2 : Nat) (many : Int) (o3 : Option Int) (o4 : Option Int) (o5 : Option Int) (t2 : TS), OK t2 → Fr [(69, 100)] t t2 → (0 ≤ many) → (many ≤ n) → (tA t2 69 1 = tA t 69 1 + many) → (tA t 69 1 + many ≤ 12 ∨ many = 0) → (tA t2 69 0 = dzF many.toNat (tA t 69 0)) → (∀ m : Nat, tA t2 69 (29 + 5 * m) = if tA t 69 1 ≤ (m : Int) ∧ (m : Int) < tA t 69 1 + many then kdF (tA t 69 0) (m - (tA t 69 1).toNat) else tA t 69 (29 + 5 * m)) → (∀ m : Nat, tA t2 69 (30 + 5 * m) = if tA t 69 1 ≤ (m : Int) ∧ (m : Int) < tA t 69 1 + many then ldF (tA t 69 0) (m - (tA t 69 1).toNat) else tA t 69 (30 + 5 * m)) → (∀ m : Nat, tA t2 69 (31 + 5 * m) = if tA t 69 1 ≤ (m : Int) ∧ (m : Int) < tA t 69 1 + many then rdF (tA t 69 0) (m - (tA t 69 1).toNat) else tA t 69 (31 + 5 * m)) → (∀ i, ¬ i = 0 → ¬ i = 1 → (i < 29 ∨ 89 ≤ i) → tA t2 69 i = tA t 69 i) → (∀ m : Nat, tA t2 69 (32 + 5 * m) = if tA t 69 1 ≤ (m : Int) ∧ (m : Int) < tA t 69 1 + many then 12 else tA t 69 (32 + 5 * m)) → (∀ m : Nat, tA t2 69 (33 + 5 * m) = if tA t 69 1 ≤ (m : Int) ∧ (m : Int) < tA t 69 1 + many then 0 else tA t 69 (33 + 5 * m)) → 12 - many < (n2 : Int) → 60 * n2 + (1000) ≤ M2 → Rn (bX9_deal (EX FU (d + 1))) M2 2 [some (.ref 68), some (.int (jI n)), some (.int (jI many)), dv o3, dv o4, dv o5] [] (mk t2) (PI (fun z t' => OK t' ∧ Fr [(69, 100)] t t' ∧ (((¬ (1 ≤ n ∧ n ≤ 12)) ∧ z = (-1000000001) ∧ t' = t) ∨ ((1 ≤ n ∧ n ≤ 12) ∧ z = min n (12 - tA t 69 1) ∧ (tA t' 69 1 = tA t 69 1 + min n (12 - tA t 69 1)) ∧ (tA t' 69 0 = dzF (min n (12 - tA t 69 1)).toNat (tA t 69 0)) ∧ (∀ m : Nat, tA t' 69 (29 + 5 * m) = if tA t 69 1 ≤ (m : Int) ∧ (m : Int) < tA t 69 1 + min n (12 - tA t 69 1) then kdF (tA t 69 0) (m - (tA t 69 1).toNat) else tA t 69 (29 + 5 * m)) ∧ (∀ m : Nat, tA t' 69 (30 + 5 * m) = if tA t 69 1 ≤ (m : Int) ∧ (m : Int) < tA t 69 1 + min n (12 - tA t 69 1) then ldF (tA t 69 0) (m - (tA t 69 1).toNat) else tA t 69 (30 + 5 * m)) ∧ (∀ m : Nat, tA t' 69 (31 + 5 * m) = if tA t 69 1 ≤ (m : Int) ∧ (m : Int) < tA t 69 1 + min n (12 - tA t 69 1) then rdF (tA t 69 0) (m - (tA t 69 1).toNat) else tA t 69 (31 + 5 * m)) ∧ (∀ m : Nat, tA t' 69 (32 + 5 * m) = if tA t 69 1 ≤ (m : Int) ∧ (m : Int) < tA t 69 1 + min n (12 - tA t 69 1) then 12 else tA t 69 (32 + 5 * m)) ∧ (∀ m : Nat, tA t' 69 (33 + 5 * m) = if tA t 69 1 ≤ (m : Int) ∧ (m : Int) < tA t 69 1 + min n (12 - tA t 69 1) then 0 else tA t 69 (33 + 5 * m)) ∧ (∀ i, ¬ i = 0 → ¬ i = 1 → (i < 29 ∨ 89 ≤ i) → tA t' 69 i = tA t 69 i))))) := by
    intro n2
    induction n2 with
    | zero => intro M2 many o3 o4 o5 t2 ok2 fr2 i2_0 i2_1 i2_2 i2_3 i2_4 i2_5 i2_6 i2_7 i2_8 i2_9 i2_10 v2 f2; exfalso; omega
    | succ n2 ih2 =>
      intro M2 many o3 o4 o5 t2 ok2 fr2 i2_0 i2_1 i2_2 i2_3 i2_4 i2_5 i2_6 i2_7 i2_8 i2_9 i2_10 v2 f2
      obtain ⟨M2, rfl⟩ : ∃ m, M2 = m + 60 := ⟨M2 - 60, by omega⟩
      refine w_step rfl ?_
      refine w_iload rfl ?_
      refine w_iload rfl ?_
      refine w_cge (by omega) (fun h3 => ?_) (fun h3 => ?_)
      · skip
        refine w_step rfl ?_
        refine w_iload rfl ?_
        refine w_retI rfl ?_
        exact ⟨ok2, fr2, (by first | (exact Or.inl ⟨by omega, by first | omega | (subst_vars; rfl), rfl⟩) | (exact Or.inr (⟨by omega, by first | omega | (subst_vars; rfl), by omega, by have e : many = min n (12 - tA t 69 1) := (by omega); rw [← e]; exact i2_4, by have e : many = min n (12 - tA t 69 1) := (by omega); rw [← e]; exact i2_5, by have e : many = min n (12 - tA t 69 1) := (by omega); rw [← e]; exact i2_6, by have e : many = min n (12 - tA t 69 1) := (by omega); rw [← e]; exact i2_7, by have e : many = min n (12 - tA t 69 1) := (by omega); rw [← e]; exact i2_9, by have e : many = min n (12 - tA t 69 1) := (by omega); rw [← e]; exact i2_10, i2_8⟩)))⟩
      refine w_aload rfl ?_
      refine w_getR (g_68_0 _) ?_
      refine w_push kc_1 ?_
      refine w_iald (i := 1) (ai_69 _) (by omega) (by omega) (ax_69 nr_1) ok2 (fun z4 hz4 hl4 hh4 => ?_)
      refine w_push kc_12 ?_
      refine w_cge (by omega) (fun h5 => ?_) (fun h5 => ?_)
      · skip
        refine w_step rfl ?_
        refine w_iload rfl ?_
        refine w_retI rfl ?_
        exact ⟨ok2, fr2, (by first | (exact Or.inl ⟨by omega, by first | omega | (subst_vars; rfl), rfl⟩) | (exact Or.inr (⟨by omega, by first | omega | (subst_vars; rfl), by omega, by have e : many = min n (12 - tA t 69 1) := (by omega); rw [← e]; exact i2_4, by have e : many = min n (12 - tA t 69 1) := (by omega); rw [← e]; exact i2_5, by have e : many = min n (12 - tA t 69 1) := (by omega); rw [← e]; exact i2_6, by have e : many = min n (12 - tA t 69 1) := (by omega); rw [← e]; exact i2_7, by have e : many = min n (12 - tA t 69 1) := (by omega); rw [← e]; exact i2_9, by have e : many = min n (12 - tA t 69 1) := (by omega); rw [← e]; exact i2_10, i2_8⟩)))⟩
      refine w_aload rfl ?_
      refine w_callV0I (oj_68 _).choose_spec rfl (c_X9_draw ok2) ?_
      rintro z6 t6 ⟨ok6, fq6, hp6_0, hp6_1, hp6_2, hp6_3⟩
      have fr6 := fr2.then fq6 (by simp)
      have e1 : tA t6 69 0 = znF (dzF many.toNat (tA t 69 0)) := by rw [hp6_0, tA_uA, if_pos ⟨rfl, rfl⟩, i2_4]
      have v1 : z6 = drF (znF (dzF many.toNat (tA t 69 0))) := by rw [hp6_1, i2_4]
      have a1 : ∀ i, ¬ i = 0 → tA t6 69 i = tA t2 69 i := fun i hi => by rw [hp6_0, tA_uA, if_neg (fun q => hi q.2)]
      refine w_push kc_6 ?_
      refine w_rem (by omega) ?_
      refine w_istore (lv' := [some (.ref 68), some (.int (jI n)), some (.int (jI many)), some (.int (jI (z6 % 6))), dv o4, dv o5]) rfl ?_
      refine w_aload rfl ?_
      refine w_callV0I (oj_68 _).choose_spec rfl (c_X9_draw ok6) ?_
      rintro z7 t7 ⟨ok7, fq7, hp7_0, hp7_1, hp7_2, hp7_3⟩
      have fr7 := fr6.then fq7 (by simp)
      have v2 : z7 = drF (znF (znF (dzF many.toNat (tA t 69 0)))) := by rw [hp7_1, e1]
      have e1 : tA t7 69 0 = znF (znF (dzF many.toNat (tA t 69 0))) := by rw [hp7_0, tA_uA, if_pos ⟨rfl, rfl⟩, e1]
      have a2 : ∀ i, ¬ i = 0 → tA t7 69 i = tA t2 69 i := fun i hi => by rw [hp7_0, tA_uA, if_neg (fun q => hi q.2)]; exact a1 i hi
      refine w_push kc_7 ?_
      refine w_rem (by omega) ?_
      refine w_istore (lv' := [some (.ref 68), some (.int (jI n)), some (.int (jI many)), some (.int (jI (z6 % 6))), some (.int (jI (z7 % 7))), dv o5]) rfl ?_
      refine w_aload rfl ?_
      refine w_iload rfl ?_
      refine w_iload rfl ?_
      refine w_aload rfl ?_
      refine w_callV0I (oj_68 _).choose_spec rfl (c_X9_draw ok7) ?_
      rintro z8 t8 ⟨ok8, fq8, hp8_0, hp8_1, hp8_2, hp8_3⟩
      have fr8 := fr7.then fq8 (by simp)
      have v3 : z8 = drF (znF (znF (znF (dzF many.toNat (tA t 69 0))))) := by rw [hp8_1, e1]
      have e1 : tA t8 69 0 = znF (znF (znF (dzF many.toNat (tA t 69 0)))) := by rw [hp8_0, tA_uA, if_pos ⟨rfl, rfl⟩, e1]
      have a3 : ∀ i, ¬ i = 0 → tA t8 69 i = tA t2 69 i := fun i hi => by rw [hp8_0, tA_uA, if_neg (fun q => hi q.2)]; exact a2 i hi
      have n3 := a3 1 (by decide)
      refine w_push kc_7 ?_
      refine w_rem (by omega) ?_
      refine w_callV3I (oj_68 _).choose_spec rfl (e_X9_comes ok8 (by omega) (by omega) (by omega) (by omega) (by omega) (by omega) (by omega)) ?_
      rintro z9 t9 ⟨ok9, fq9, hp9_0, hp9_1, hp9_2, hp9_3, hp9_4, hp9_5, hp9_6, hp9_7⟩
      have fr9 := fr8.then fq9 (by simp)
      have ez : tA t9 69 0 = dzF (many + 1).toNat (tA t 69 0) := by rw [hp9_5 0 (by decide) (by omega), e1, show (many + 1).toNat = many.toNat + 1 by omega]; rfl
      have en : tA t9 69 1 = tA t2 69 1 + 1 := by rw [hp9_1, n3]
      have e2 : ∀ m : Nat, tA t9 69 (29 + 5 * m) = if m = (tA t 69 1 + many).toNat then kdF (tA t 69 0) many.toNat else tA t2 69 (29 + 5 * m) := fun m => by rw [comes_e (c := 29) (by decide) hp9_2 hp9_5 m, n3, i2_2, a3 _ (by omega), v1]; rfl
      have e3 : ∀ m : Nat, tA t9 69 (30 + 5 * m) = if m = (tA t 69 1 + many).toNat then ldF (tA t 69 0) many.toNat else tA t2 69 (30 + 5 * m) := fun m => by rw [comes_e (c := 30) (by decide) hp9_3 hp9_5 m, n3, i2_2, a3 _ (by omega), v2]; rfl
      have e4 : ∀ m : Nat, tA t9 69 (31 + 5 * m) = if m = (tA t 69 1 + many).toNat then rdF (tA t 69 0) many.toNat else tA t2 69 (31 + 5 * m) := fun m => by rw [comes_e (c := 31) (by decide) hp9_4 hp9_5 m, n3, i2_2, a3 _ (by omega), v3]; rfl
      have e6 : ∀ m : Nat, tA t9 69 (32 + 5 * m) = if m = (tA t 69 1 + many).toNat then 12 else tA t2 69 (32 + 5 * m) := fun m => by rw [comes_f (c := 32) (by decide) hp9_6 hp9_5 m, n3, i2_2, a3 _ (by omega)]
      have e7 : ∀ m : Nat, tA t9 69 (33 + 5 * m) = if m = (tA t 69 1 + many).toNat then 0 else tA t2 69 (33 + 5 * m) := fun m => by rw [comes_f (c := 33) (by decide) hp9_7 hp9_5 m, n3, i2_2, a3 _ (by omega)]
      have eo : ∀ i, ¬ i = 0 → ¬ i = 1 → (i < 29 ∨ 89 ≤ i) → tA t9 69 i = tA t 69 i := fun i h0 h1 h2 => by rw [hp9_5 i h1 (by omega), a3 i h0]; exact i2_8 i h0 h1 h2
      refine w_istore (lv' := [some (.ref 68), some (.int (jI n)), some (.int (jI many)), some (.int (jI (z6 % 6))), some (.int (jI (z7 % 7))), some (.int (jI z9))]) rfl ?_
      refine w_iinc (lv' := [some (.ref 68), some (.int (jI n)), some (.int (jI (many + 1))), some (.int (jI (z6 % 6))), some (.int (jI (z7 % 7))), some (.int (jI z9))]) kc_1 rfl rfl ?_
      refine w_goto ?_
      exact ih2 _ (many + 1) (some (z6 % 6)) (some (z7 % 7)) (some z9) t9 ok9 fr9 (by omega) (by omega) (by omega) (by omega) ez (deal_step hn0 i2_0 (by omega) i2_5 e2 rfl) (deal_step hn0 i2_0 (by omega) i2_6 e3 rfl) (deal_step hn0 i2_0 (by omega) i2_7 e4 rfl) eo (deal_step (F := fun _ => 12) hn0 i2_0 (by omega) i2_9 e6 rfl) (deal_step (F := fun _ => 0) hn0 i2_0 (by omega) i2_10 e7 rfl) (by omega) (by omega)
  exact key2 13 _ 0 none none none t ok fr (by omega) (by omega) (by omega) (by omega) rfl (by intro m; rw [if_neg (by omega)]) (by intro m; rw [if_neg (by omega)]) (by intro m; rw [if_neg (by omega)]) (fun _ _ _ _ => rfl) (by intro m; rw [if_neg (by omega)]) (by intro m; rw [if_neg (by omega)]) (by omega) (by omega)
set_option maxRecDepth 100000 in
set_option maxHeartbeats 4000000 in
theorem e_X9_days {d : Nat} {t : TS} {n : Int}  (ok : OK t) (q0 : WF t 69) (q1 : NZ t 69) (q2 : tI t 68 4 = -1) (q3 : -2147483648 ≤ n) (q4 : n ≤ 2147483647) (q5 : 0 ≤ tA t 69 2) (q6 : tA t 69 2 ≤ 9999) : CI (EX FU (d + 8)) 161 [.ref 68, .int (jI n)] (mk t) (fun z t' => OK t' ∧ Fr [(69, 100), (81, 100), (82, 100)] t t' ∧ (Dq t t') ∧ (((¬ (1 ≤ n ∧ n ≤ 100)) ∧ z = (-1000000001) ∧ (∀ i, tA t' 69 i = tA t 69 i)) ∨ ((1 ≤ n ∧ n ≤ 100) ∧ z = caA t 69 (min n (9999 - tA t 69 2)).toNat - caA t 69 0 ∧ (tA t' 69 0 = zdsF (min n (9999 - tA t 69 2)).toNat (tA t 69 0) (tA t 69 3)) ∧ (tA t' 69 2 = tA t 69 2 + min n (9999 - tA t 69 2)) ∧ (GRp t t' (dysF (tA t 69 1).toNat (OA t 69) (tA t 69 3) (tA t 69 0) (min n (9999 - tA t 69 2)).toNat (RPt t)))))) := by
  refine CI_ent (d := d + 7) (Bk := bX9_days) (nL := 3) rfl rfl rfl (Nat.le_of_ble_eq_true rfl) ?_
  show Rn _ 1000000 0 [some (.ref 68), some (.int (jI n)), none] [] _ _
  have fr : Fr [(69, 100), (81, 100), (82, 100)] t t := Fr.rf _ _
  have hn0 := (ok.a (ax_69 nr_1)).1
  have hn1 := (ok.a (ax_69 nr_1)).2
  have dq : Dq t t := Dq.rf t
  refine w_step rfl ?_
  refine w_iload rfl ?_
  refine w_push kc_1 ?_
  refine w_push kc_100 ?_
  refine w_callS3I rfl (c_X9_in ok (by omega) (by omega) (by omega) (by omega) (by omega) (by omega)) ?_
  rintro z1 t1 ⟨rfl, hp1_0⟩
  rcases hp1_0 with ⟨rfl, hp1_0⟩ | ⟨rfl, hp1_0⟩
  · skip
    refine w_ine (by omega) (fun h => absurd h (by omega)) (fun _ => ?_)
    refine w_push kc_m1000000001 ?_
    refine w_retI rfl ?_
    exact ⟨ok, fr, dq, (by first | (exact Or.inl ⟨by omega, by first | omega | (subst_vars; rfl), fun _ => rfl⟩) | (exact Or.inr (⟨by omega, by omega, e1, by omega, e3⟩)))⟩
  refine w_ine (by omega) (fun _ => ?_) (fun h => absurd (by omega) h)
  refine w_step rfl ?_
  refine w_aload rfl ?_
  refine w_callV0I (oj_68 _).choose_spec rfl (e_X9_manyLaid ok) ?_
  rintro z2 t2 ⟨rfl, hp2_0, hp2_1, hp2_2⟩
  have c0 : z2 = caA t 69 0 := by rw [hp2_2]; rfl
  refine w_istore (lv' := [some (.ref 68), some (.int (jI n)), some (.int (jI z2))]) rfl ?_
  refine w_aload rfl ?_
  refine w_push kc_9999 ?_
  refine w_aload rfl ?_
  refine w_getR (g_68_0 _) ?_
  refine w_push kc_2 ?_
  refine w_iald (i := 2) (ai_69 _) (by omega) (by omega) (ax_69 nr_2) ok (fun z3 hz3 hl3 hh3 => ?_)
  have en := hz3
  refine w_sub ?_
  refine w_push kc_0 ?_
  refine w_iload rfl ?_
  refine w_callS3I rfl (c_X9_within ok (by omega) (by omega) (by omega) (by omega) (by omega) (by omega) (by omega)) ?_
  rintro z4 t4 ⟨rfl, hp4_0⟩
  have ew : z4 = min n (9999 - tA t 69 2) := by omega
  refine w_callV1V (oj_68 _).choose_spec rfl (e_X9_goesOn ok q0 q1 (AW_no q2) (by omega) (by omega) (by omega)) ?_
  rintro t5 ⟨ok5, fq5, hp5_0, hp5_1, hp5_2, hp5_3⟩
  have fr5 := fr.then fq5 (by simp)
  have wf5 := q0.dq hp5_0
  have dq5 := dq.trans hp5_0
  have e1 := hp5_1
  rw [ew] at e1
  have e2 := hp5_2 (by omega) (by omega) (by omega)
  have e3 := hp5_3
  rw [ew] at e3
  refine w_aload rfl ?_
  refine w_callV0I (oj_68 _).choose_spec rfl (e_X9_manyLaid ok5) ?_
  rintro z6 t6 ⟨rfl, hp6_0, hp6_1, hp6_2⟩
  have c1 : z6 = caA t 69 (min n (9999 - tA t 69 2)).toNat := by rw [hp6_2]; exact gr_ca q2 e3
  refine w_iload rfl ?_
  refine w_sub ?_
  refine w_retI rfl ?_
  exact ⟨ok5, fr5, dq5, (by first | (exact Or.inl ⟨by omega, by first | omega | (subst_vars; rfl), fun _ => rfl⟩) | (exact Or.inr (⟨by omega, by omega, e1, by omega, e3⟩)))⟩
end
