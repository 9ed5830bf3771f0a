/-! ===== the reference's calls: views ===== -/
theorem picH_cg2 {n : Nat} {O O' : Nat → Nat → Nat → Int} {U H U' H' : Nat → Int} (h : AgH U H U' H') (hn : ∀ p, p < 12 → H p < (n : Int) ∧ -1 ≤ H p) (hu : ∀ s, s < n → 0 ≤ U s ∧ U s ≤ 1) (hO : AgO n O O') : ∀ m : Nat, m ≤ 12 → picH O U H m = picH O' U' H' m
  | 0, _ => rfl
  | m + 1, hm => by
    obtain ⟨h1, h2⟩ := h m (by omega)
    have b := hn m (by omega)
    unfold picH
    rw [picH_cg2 h hn hu hO m (by omega), ← h1]
    by_cases e : H m = -1
    · rw [if_pos e, if_pos e]
    · have u := hu (H m).toNat (by omega)
      rw [if_neg e, if_neg e, ← h2 e, hO _ m _ (by omega) (by omega) (by omega)]
theorem picG_cg2 {n : Nat} {O O' : Nat → Nat → Nat → Int} {x y : GPU} (h : Agr n x y) (hO : AgO n O O') (hu : ∀ s, s < n → 0 ≤ x.2 s ∧ x.2 s ≤ 1) : picG n O x = picG n O' y := picH_cg2 (AgH_of h) (fun p _ => HF_b _ _ _) hu hO 12 (Nat.le_refl _)
def xA (t : TS) (c k : Nat) : GPU := dysF (tA t c 1).toNat (OA t c) (tA t c 3) (tA t c 0) k (RPc t c)
def pcA (t : TS) (c k : Nat) : Int := picG (tA t c 1).toNat (OA t c) (xA t c k)
def mtA (t : TS) (c k : Nat) : Int := matG (tA t c 1).toNat (LA t c) (RA t c) (xA t c k)
def caA (t : TS) (c k : Nat) : Int := caF (xA t c k).1 (tA t c 1).toNat
def atA (t : TS) (c k : Nat) (p : Int) : Int := hoF (xA t c k).1 p (tA t c 1).toNat
theorem AW_no {t : TS} (h : tI t 68 4 = -1) : AWp t := Or.inl h
theorem rh_at {t : TS} (p : Int) : RHp t p = atA t 69 0 p := rfl
theorem pc_e {t : TS} (h : tI t 68 4 = -1) : picG (tA t 69 1).toNat (OA t 69) (RPt t) = pcA t 69 0 := by rw [RPt_no h]; rfl
theorem mt_e {t : TS} (h : tI t 68 4 = -1) : matG (tA t 69 1).toNat (LA t 69) (RA t 69) (RPt t) = mtA t 69 0 := by rw [RPt_no h]; rfl
/-- a state that has gone on for some days from another one -/
def GXp (t u : TS) (k : Nat) : Prop := RPt u = xA t 69 k ∧ tI u 68 4 = -1 ∧ OA u 69 = OA t 69 ∧ tA u 69 1 = tA t 69 1 ∧ (∀ s, LA u 69 s = LA t 69 s ∧ RA u 69 s = RA t 69 s) ∧ tA u 69 3 = tA t 69 3 ∧ tA u 69 0 = zdsF k (tA t 69 0) (tA t 69 3)
theorem gx_0 {t u : TS} (h : tI t 68 4 = -1) (e : ∀ i, tA u 69 i = tA t 69 i) (e4 : tI u 68 4 = tI t 68 4) : GXp t u 0 := by
  refine ⟨?_, e4.trans h, OA_cg (fun i _ _ _ => e i), e 1, fun s => ⟨e _, e _⟩, e 3, e 0⟩
  rw [RPt_no (e4.trans h)]
  show RPc u 69 = RPc t 69
  unfold RPc
  congr 1
  · funext s; exact e _
  · funext s; exact e _
theorem gx_d {t u v : TS} {k : Nat} (h : GXp t u 0) (g : GRp u v (dysF (tA u 69 1).toNat (OA u 69) (tA u 69 3) (tA u 69 0) k (RPt u))) (d : Dq u v) (hz : tA v 69 0 = zdsF k (tA u 69 0) (tA u 69 3)) : GXp t v k := by
  obtain ⟨a1, a2, a3, a4, a5, a6, a7⟩ := h
  obtain ⟨g1, g2, g3, g4, g5⟩ := g
  have a7' : tA u 69 0 = tA t 69 0 := a7
  refine ⟨?_, g5.trans a2, g3.trans a3, g4.trans a4, fun s => ?_, (d 3 (by decide) (by decide) (by decide)).trans a6, by rw [hz, a6, a7']⟩
  · rw [g1, a1, a3, a4, a6, a7']
    rfl
  · have := a5 s
    refine ⟨?_, ?_⟩
    · exact (d _ (by omega) (by omega) (by omega)).trans this.1
    · exact (d _ (by omega) (by omega) (by omega)).trans this.2
theorem gx_s {t u v : TS} {k : Nat} (h : GXp t u k) (g : GRp u v (dyF (tA u 69 1).toNat (OA u 69) (tA u 69 3) (tA u 69 0) (RPt u))) (d : Dq u v) (hz : tA v 69 0 = zdF (tA u 69 0) (tA u 69 3)) : GXp t v (k + 1) := by
  obtain ⟨a1, a2, a3, a4, a5, a6, a7⟩ := h
  obtain ⟨g1, g2, g3, g4, g5⟩ := g
  refine ⟨?_, g5.trans a2, g3.trans a3, g4.trans a4, fun s => ?_, (d 3 (by decide) (by decide) (by decide)).trans a6, by rw [hz, a6, a7]; rfl⟩
  · rw [g1, a1, a3, a4, a6, a7]
    rfl
  · have := a5 s
    refine ⟨?_, ?_⟩
    · exact (d _ (by omega) (by omega) (by omega)).trans this.1
    · exact (d _ (by omega) (by omega) (by omega)).trans this.2
theorem gx_pc {t u : TS} {k : Nat} (h : GXp t u k) : picG (tA u 69 1).toNat (OA u 69) (RPt u) = pcA t 69 k := by
  obtain ⟨a1, a2, a3, a4, a5, a6, a7⟩ := h
  rw [a1, a3, a4]
  rfl
theorem gx_mt {t u : TS} {k : Nat} (h : GXp t u k) : matG (tA u 69 1).toNat (LA u 69) (RA u 69) (RPt u) = mtA t 69 k := by
  obtain ⟨a1, a2, a3, a4, a5, a6, a7⟩ := h
  rw [a1, a4, funext (fun s => (a5 s).1), funext (fun s => (a5 s).2)]
  rfl
theorem gx_ca {t u : TS} {k : Nat} (h : GXp t u k) : caF (AA u 69) (tA u 69 1).toNat = caA t 69 k := by
  obtain ⟨a1, a2, a3, a4, a5, a6, a7⟩ := h
  rw [RPt_no a2] at a1
  have e : AA u 69 = (xA t 69 k).1 := by rw [← a1]; rfl
  rw [e, a4]
  rfl
theorem gx_at {t u : TS} {k : Nat} {p : Int} (h : GXp t u k) : RHp u p = atA t 69 k p := by
  obtain ⟨a1, a2, a3, a4, a5, a6, a7⟩ := h
  rw [RPt_no a2] at a1
  show hoF (RPc u 69).1 p (tA u 69 1).toNat = _
  rw [a1, a4]
  rfl
/-! changing two -/
def gsA (t : TS) (a b : Nat) : Int := if ¬ AA t 69 a = 12 ∧ ¬ AA t 69 b = 12 then pcA t 69 0 - picG (tA t 69 1).toNat (OA t 69) (upF (upF (RPc t 69).1 a (AA t 69 b)) b (AA t 69 a), (RPc t 69).2) else 0
theorem ch_rp {t u v : TS} {x y : Int} (h : tI t 68 4 = -1) (e : ∀ i, tA u 69 i = tA t 69 i) (e4 : tI v 68 4 = tI t 68 4) (hc : ∀ i, tA v 69 i = if i = 32 + 5 * y.toNat then tA u 69 (32 + 5 * x.toNat) else if i = 32 + 5 * x.toNat then tA u 69 (32 + 5 * y.toNat) else tA u 69 i) (hx : 0 ≤ x ∧ x ≤ 11 ∧ 0 ≤ y ∧ y ≤ 11) : picG (tA v 69 1).toNat (OA v 69) (RPt v) = picG (tA t 69 1).toNat (OA t 69) (upF (upF (RPc t 69).1 x.toNat (AA t 69 y.toNat)) y.toNat (AA t 69 x.toNat), (RPc t 69).2) := by
  have e1 : tA v 69 1 = tA t 69 1 := by rw [hc, if_neg (by omega), if_neg (by omega), e]
  have eo : OA v 69 = OA t 69 := OA_cg (fun i _ _ c => by rw [hc, if_neg (by omega), if_neg (by omega), e])
  rw [e1, eo, RPt_no (e4.trans h)]
  unfold RPc
  congr 2
  · funext s
    rw [hc]
    show _ = upF _ _ _ s
    unfold upF
    by_cases q : s = y.toNat
    · rw [if_pos (by omega), if_pos q, e]
      rfl
    · rw [if_neg (by omega), if_neg q]
      by_cases q2 : s = x.toNat
      · rw [if_pos (by omega), if_pos q2, e]
        rfl
      · rw [if_neg (by omega), if_neg q2, e]
  · funext s
    rw [hc, if_neg (by omega), if_neg (by omega), e]
theorem ch_bk {u v w : TS} {x y : Int} (h1 : ∀ i, tA v 69 i = if i = 32 + 5 * y.toNat then tA u 69 (32 + 5 * x.toNat) else if i = 32 + 5 * x.toNat then tA u 69 (32 + 5 * y.toNat) else tA u 69 i) (m : TS) (hm : ∀ i, tA m 69 i = tA v 69 i) (h2 : ∀ i, tA w 69 i = if i = 32 + 5 * y.toNat then tA m 69 (32 + 5 * x.toNat) else if i = 32 + 5 * x.toNat then tA m 69 (32 + 5 * y.toNat) else tA m 69 i) : ∀ i, tA w 69 i = tA u 69 i := by
  intro i
  rw [h2, hm, hm, hm, h1, h1, h1]
  by_cases q : i = 32 + 5 * y.toNat
  · rw [if_pos q]
    by_cases q2 : 32 + 5 * x.toNat = 32 + 5 * y.toNat
    · rw [if_pos q2, q, q2]
    · rw [if_neg q2, if_pos rfl, q]
  · rw [if_neg q]
    by_cases q2 : i = 32 + 5 * x.toNat
    · rw [if_pos q2, if_pos rfl, q2]
    · rw [if_neg q2, if_neg q, if_neg q2]
/-! one stone lost -/
theorem lo_rp {t u : TS} {s : Int} (h : tI t 68 4 = -1) (e : ∀ i, tA u 69 i = if i = 32 + 5 * s.toNat then 12 else tA t 69 i) (e4 : tI u 68 4 = s) (h0 : 0 ≤ s ∧ s ≤ 11) : AWp u ∧ RPt u = (upF (RPc t 69).1 s.toNat 13, (RPc t 69).2) ∧ OA u 69 = OA t 69 ∧ tA u 69 1 = tA t 69 1 ∧ tA u 69 3 = tA t 69 3 ∧ tA u 69 0 = tA t 69 0 := by
  refine ⟨Or.inr (by rw [e4, e, if_pos rfl]), ?_, OA_cg (fun i _ _ c => by rw [e, if_neg (by omega)]), by rw [e, if_neg (by omega)], by rw [e, if_neg (by omega)], by rw [e, if_neg (by omega)]⟩
  unfold RPt RPc
  congr 1
  · funext i
    show _ = upF _ _ _ i
    unfold upF
    rw [e4, e]
    by_cases q : i = s.toNat
    · rw [if_pos (by omega), if_pos q]
    · rw [if_neg (by omega), if_neg q, if_neg (by omega)]
  · funext i
    rw [e, if_neg (by omega)]
theorem lo_pc {t u v : TS} {s : Int} {k : Nat} (h : tI t 68 4 = -1) (e : ∀ i, tA u 69 i = if i = 32 + 5 * s.toNat then 12 else tA t 69 i) (e4 : tI u 68 4 = s) (h0 : 0 ≤ s ∧ s ≤ 11) (g : GRp u v (dysF (tA u 69 1).toNat (OA u 69) (tA u 69 3) (tA u 69 0) k (RPt u))) : picG (tA v 69 1).toNat (OA v 69) (RPt v) = picG (tA t 69 1).toNat (OA t 69) (dysF (tA t 69 1).toNat (OA t 69) (tA t 69 3) (tA t 69 0) k (upF (RPc t 69).1 s.toNat 13, (RPc t 69).2)) := by
  obtain ⟨b1, b2, b3, b4, b5, b6⟩ := lo_rp h e e4 h0
  obtain ⟨g1, g2, g3, g4, g5⟩ := g
  rw [g1, g3, g4, b2, b3, b4, b5, b6]
/-! the image as it goes on -/
theorem exA_cp {t u : TS} {c e : Nat} (w : WF t c) (hc : tA t c 4 ≤ 14) (h : ∀ i, i < 1461 → tA u e i = tA t c i) (q d f0 f1 f2 : Int) : exR u e q d f0 f1 f2 = exR t c q d f0 f1 f2 := by
  have e4 := h 4 (by decide)
  have hcu : cuA u e q = cuA t c q := by
    unfold cuA
    rw [e4]
    exact coF_cg (fun k hk => h _ (by omega))
  have b := coF_b (rkA t c) q (tA t c 4).toNat
  have b' : -1 ≤ cuA t c q ∧ cuA t c q ≤ ((tA t c 4).toNat : Int) - 1 := b
  unfold exR
  rw [hcu]
  by_cases z : cuA t c q = -1
  · rw [if_pos z, if_pos z]
  · rw [if_neg z, if_neg z]
    have hk : ((cuA t c q).toNat : Int) < tA t c 4 := by omega
    obtain ⟨w1, w2⟩ := w _ hk
    have en : rnA u e (cuA t c q).toNat = rnA t c (cuA t c q).toNat := by unfold rnA; rw [h _ (by omega)]
    rw [en]
    refine evR_cg (fun i hi => ⟨?_, Or.inl rfl⟩)
    unfold rnA at hi
    exact h _ (by omega)
theorem OA_cp {t u : TS} {c e n : Nat} (w : WF t c) (hc : tA t c 4 ≤ 14) (h : ∀ i, i < 1461 → tA u e i = tA t c i) (hn : n ≤ 12) : AgO n (OA u e) (OA t c) := by
  intro s p v hs hp hv
  have k : ∀ v, dkS u e s (p / 3) v = dkS t c s (p / 3) v := by
    intro v
    unfold dkS dkA hvA
    rw [exA_cp w hc h, h _ (by omega), h _ (by omega), h _ (by omega)]
  unfold OA
  rw [if_pos hp, if_pos hp, k, k, h _ (by omega), h _ (by omega)]
def BRp (t u : TS) (c k : Nat) : Prop := tA u 69 1 = tA t c 1 ∧ tI u 68 4 = -1 ∧ Agr (tA t c 1).toNat (RPt u) (xA t c k) ∧ AgO (tA t c 1).toNat (OA u 69) (OA t c) ∧ (∀ s, s < 12 → LA u 69 s = LA t c s ∧ RA u 69 s = RA t c s) ∧ tA u 69 3 = tA t c 3 ∧ tA u 69 0 = zdsF k (tA t c 0) (tA t c 3) ∧ NZ u 69
theorem bq_0 {t u : TS} {c : Nat} (w : WF t c) (nz : NZ t c) (hc : tA t c 4 ≤ 14) (hn : tA t c 1 ≤ 12) (h : ∀ i, i < 1461 → tA u 69 i = tA t c i) (e4 : tI u 68 4 = -1) : BRp t u c 0 := by
  refine ⟨h 1 (by decide), e4, fun s hs => ?_, OA_cp w hc h (by omega), fun s hs => ⟨h _ (by omega), h _ (by omega)⟩, h 3 (by decide), h 0 (by decide), fun k hk => ?_⟩
  · rw [RPt_no e4]
    exact ⟨h _ (by omega), h _ (by omega)⟩
  · rw [h 4 (by decide)] at hk
    rw [h _ (by omega)]
    exact nz k hk
theorem bq_s {t u v : TS} {c k : Nat} (h : BRp t u c k) (g : GRp u v (dyF (tA u 69 1).toNat (OA u 69) (tA u 69 3) (tA u 69 0) (RPt u))) (d : Dq u v) (hz : tA v 69 0 = zdF (tA u 69 0) (tA u 69 3)) : BRp t v c (k + 1) := by
  obtain ⟨a1, a2, a3, a4, a5, a6, a7, a8⟩ := h
  obtain ⟨g1, g2, g3, g4, g5⟩ := g
  refine ⟨g4.trans a1, g5.trans a2, ?_, by rw [g3]; exact a4, fun s hs => ?_, (d 3 (by decide) (by decide) (by decide)).trans a6, by rw [hz, a6, a7]; rfl, fun k hk => ?_⟩
  · rw [g1, a1, a6, a7]
    exact dyF_agr a3 a4
  · have := a5 s hs
    exact ⟨(d _ (by omega) (by omega) (by omega)).trans this.1, (d _ (by omega) (by omega) (by omega)).trans this.2⟩
  · rw [d 4 (by decide) (by decide) (by decide)] at hk
    rw [d _ (by omega) (by omega) (by omega)]
    exact a8 k hk
theorem bq_f {S : List (Nat × Nat)} {t u v : TS} {c k : Nat} (h : BRp t u c k) (f : Fr S u v) (h69 : (69, 100) ∉ S) (h4 : (68, 4) ∉ S) : BRp t v c k := by
  have e := f.2.1 _ h69
  obtain ⟨a1, a2, a3, a4, a5, a6, a7, a8⟩ := h
  refine ⟨(e 1).trans a1, (f.1 _ _ h4).trans a2, by rw [rp_fr f h69 h4]; exact a3, by rw [OA_fr f h69]; exact a4, fun s hs => ?_, (e 3).trans a6, (e 0).trans a7, fun k hk => ?_⟩
  · have := a5 s hs
    exact ⟨(e _).trans this.1, (e _).trans this.2⟩
  · rw [e] at hk ⊢
    exact a8 k hk
theorem bq_pc {t u : TS} {c k : Nat} (h : BRp t u c k) (ok : OK u) (hu : ∀ s, s < 12 → 0 ≤ (RPt u).2 s ∧ (RPt u).2 s ≤ 1) (hn : tA t c 1 ≤ 12) : picG (tA u 69 1).toNat (OA u 69) (RPt u) = pcA t c k := by
  obtain ⟨a1, a2, a3, a4, a5, a6, a7, a8⟩ := h
  rw [a1]
  unfold pcA
  exact picG_cg2 a3 a4 (fun s hs => hu s (by omega))
theorem bq_mt {t u : TS} {c k : Nat} (h : BRp t u c k) (hn : tA t c 1 ≤ 12) : matG (tA u 69 1).toNat (LA u 69) (RA u 69) (RPt u) = mtA t c k := by
  obtain ⟨a1, a2, a3, a4, a5, a6, a7, a8⟩ := h
  rw [a1]
  exact matG_cg a3 (fun s hs => a5 s (by omega))
theorem rt_u {u : TS} (ok : OK u) (s : Nat) (hs : s < 12) : 0 ≤ (RPt u).2 s ∧ (RPt u).2 s ≤ 1 := ok.a (ax_69 (nr_S4 (s := s) (by omega)))
/-! bytes: one way to shift and the other -/
theorem sh_bit (x : BitVec 32) (n : Nat) (h : n ≤ 24) : (x.sshiftRight n) &&& 255#32 = (x >>> n) &&& 255#32 := by
  apply BitVec.eq_of_getLsbD_eq
  intro i hi
  rw [BitVec.getLsbD_and, BitVec.getLsbD_and]
  by_cases q : i < 8
  · rw [BitVec.getLsbD_sshiftRight, BitVec.getLsbD_ushiftRight]
    have h1 : ¬ 32 ≤ i := by omega
    have h2 : n + i < 32 := by omega
    simp [h1, h2]
  · have e : (255#32).getLsbD i = false := by
      have h8 : i = 8 + (i - 8) := by omega
      rw [BitVec.getLsbD_ofNat]
      have : Nat.testBit 255 i = false := by
        apply Nat.testBit_lt_two_pow
        calc 255 < 2 ^ 8 := by decide
          _ ≤ 2 ^ i := Nat.pow_le_pow_right (by decide) (by omega)
      simp [this]
    rw [e, Bool.and_false, Bool.and_false]
theorem by_sar (x : Int) {s : Int} (hs : s = 0 ∨ s = 8 ∨ s = 16 ∨ s = 24) : fZ (fun x y => x &&& y) (fZ (fun x y => x >>> (y &&& 31)) x s) 255 = byF x s := by
  unfold byF fZ
  rw [jI_self, jI_self]
  congr 1
  apply Int32.toBitVec_inj.mp
  rw [Int32.toBitVec_and, Int32.toBitVec_and]
  have e : (jI 255).toBitVec = 255#32 := by decide
  rw [e]
  rcases hs with rfl | rfl | rfl | rfl
  · exact sh_bit (jI x).toBitVec 0 (by decide)
  · exact sh_bit (jI x).toBitVec 8 (by decide)
  · exact sh_bit (jI x).toBitVec 16 (by decide)
  · exact sh_bit (jI x).toBitVec 24 (by decide)
theorem fd_s {t u v : TS} {x y z k q s b i : Int} (h0 : 0 ≤ tI t 68 9) (hk : 0 ≤ k ∧ k < 12) (g : ∀ m : Nat, tA u 75 m = if tI t 68 9 ≤ (m : Int) ∧ (m : Int) < tI t 68 9 + k then fbF x y z (m - (tI t 68 9).toNat) else tA t 75 m) (hq : (k < 4 ∧ q = x) ∨ (4 ≤ k ∧ k < 8 ∧ q = y) ∨ (8 ≤ k ∧ q = z)) (hs : s = fZ (fun x y => x >>> (y &&& 31)) q (24 - 8 * (k % 4))) (hb : b = fZ (fun x y => x &&& y) s 255) (hi : i = tI t 68 9 + k) (e : v = uA u 75 i.toNat b) : ∀ m : Nat, tA v 75 m = if tI t 68 9 ≤ (m : Int) ∧ (m : Int) < tI t 68 9 + (k + 1) then fbF x y z (m - (tI t 68 9).toNat) else tA t 75 m := by
  have hb2 : b = fbF x y z k.toNat := by
    rw [hb, hs, by_sar q (by omega)]
    unfold fbF
    rw [show ((k.toNat % 4 : Nat) : Int) = k % 4 by omega]
    rcases hq with c | c | c
    · rw [if_pos (by omega), c.2]
    · rw [if_neg (by omega), if_pos (by omega), c.2.2]
    · rw [if_neg (by omega), if_neg (by omega), c.2]
  intro m
  rw [e, tA_uA, g]
  by_cases c : m = i.toNat
  · rw [if_pos ⟨rfl, c⟩, if_pos (by omega), hb2]
    congr 1
    omega
  · rw [if_neg (fun n => c n.2)]
    by_cases c2 : tI t 68 9 ≤ (m : Int) ∧ (m : Int) < tI t 68 9 + k
    · rw [if_pos c2, if_pos (by omega)]
    · rw [if_neg c2, if_neg (by omega)]
