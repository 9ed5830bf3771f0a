/-! ===== texts and places of both sides held together ===== -/
def TXr (x : TX) (u : TS) (c k : Nat) : Prop := x.2.2.1.length ≤ 96 ∧ tA u c (89 + 2 * k) = 1000 * x.1 + (x.2.2.1.length : Int) ∧ tA u c (90 + 2 * k) = x.2.1 ∧ ∀ i, i < x.2.2.1.length → tA u c (117 + 96 * k + i) = xcF x i
def RT (t u : TS) (b c : Nat) : Prop := tI t b 11 = tA u c 4 ∧ (0 ≤ tA u c 4 ∧ tA u c 4 ≤ 14) ∧ (∀ k : Nat, (k : Int) < tA u c 4 → ∃ j, j < (tD t).length ∧ tT t (b + 9) k = some (92 + 4 * j) ∧ TXr (tx t j) u c k) ∧ ∀ q : Nat, q < 3 → tA t (b + 10) q = cuA u c q
def RPl (t u : TS) (b c : Nat) : Prop := HCt t b ∧ DK t b (tI t b 10) ∧ Agr (tI t b 10).toNat (CP t b) (RPc u c)
def SmR (P : Nat → Prop) (c c' : Nat) (u u' : TS) : Prop := ∀ i, P i → i < 1461 → tA u' c' i = tA u c i
def pT (i : Nat) : Prop := i = 4 ∨ 89 ≤ i
def pP (i : Nat) : Prop := 29 ≤ i ∧ i < 89 ∧ 3 ≤ (i - 29) % 5
theorem TXr.hd {x y : TX} {u : TS} {c k : Nat} (h : TXr x u c k) (e : Dhd y = Dhd x) : TXr y u c k := by
  obtain ⟨e1, e2, e3, e4, e5⟩ := Dhd_1 e
  obtain ⟨h1, h2, h3, h4⟩ := h
  unfold TXr
  rw [e1, e2, e3, xcF_hd e]
  exact ⟨h1, h2, h3, h4⟩
theorem TXr.mv {x : TX} {u u' : TS} {c c' k : Nat} (h : TXr x u c k) (hk : k < 14) (r : SmR pT c c' u u') : TXr x u' c' k := by
  obtain ⟨h1, h2, h3, h4⟩ := h
  refine ⟨h1, ?_, ?_, fun i hi => ?_⟩
  · rw [r _ (Or.inr (by omega)) (by omega)]; exact h2
  · rw [r _ (Or.inr (by omega)) (by omega)]; exact h3
  · rw [r _ (Or.inr (by omega)) (by omega)]; exact h4 i hi
theorem cuA_mv {u u' : TS} {c c' : Nat} (hc : tA u c 4 ≤ 14) (r : SmR pT c c' u u') (q : Int) : cuA u' c' q = cuA u c q := by
  unfold cuA
  rw [r 4 (Or.inl rfl) (by omega)]
  exact coF_cg (fun k hk => r _ (Or.inr (by omega)) (by omega))
def HdE (t t' : TS) : Prop := (tD t).length ≤ (tD t').length ∧ ∀ j, j < (tD t).length → Dhd (tx t' j) = Dhd (tx t j)
theorem HdE.of {t t' : TS} (h : (tD t').map Dhd = (tD t).map Dhd) : HdE t t' := ⟨by rw [hd_len h]; exact Nat.le_refl _, fun j _ => tx_hd h j⟩
theorem HdE.tr {t u v : TS} (h : HdE t u) (k : HdE u v) : HdE t v := ⟨Nat.le_trans h.1 k.1, fun j hj => (k.2 j (Nat.lt_of_lt_of_le hj h.1)).trans (h.2 j hj)⟩
theorem tx_old {t u : TS} {x : TX} (h : (tD u).map Dhd = (tD t).map Dhd ++ [Dhd x]) : HdE t u := by
  have hl : (tD u).length = (tD t).length + 1 := by
    have := congrArg List.length h
    simpa using this
  refine ⟨by omega, fun j hj => ?_⟩
  have hg : ∀ v : TS, Dhd (tx v j) = (((tD v).map Dhd)[j]?).getD (Dhd (0, 0, [], [], [])) := by
    intro v
    rw [List.getElem?_map]
    unfold tx
    rw [List.getD_eq_getElem?_getD]
    cases (tD v)[j]? <;> rfl
  rw [hg u, hg t, h, List.getElem?_append_left (by simpa using hj)]
theorem lwF_ok {t : TS} (ok : OK t) (b q : Nat) : lwF t b q = none ∨ ∃ j, j < (tD t).length ∧ lwF t b q = some (92 + 4 * j) := by
  have h : ∀ k, lwF t b q = some k → ∃ j, j < (tD t).length ∧ k = 92 + 4 * j := by
    intro k hk
    unfold lwF at hk
    split at hk
    · exact ok.2.2.1 _ _ _ hk
    · cases hk
  cases e : lwF t b q with
  | none => exact Or.inl rfl
  | some k =>
    obtain ⟨j, hj, ek⟩ := h k e
    exact Or.inr ⟨j, hj, by rw [ek]⟩
theorem exF_he {t t' : TS} {o : Option Nat} (h : HdE t t') (ho : o = none ∨ ∃ j, j < (tD t).length ∧ o = some (92 + 4 * j)) (d f0 f1 f2 : Int) : exF t' o d f0 f1 f2 = exF t o d f0 f1 f2 := by
  rcases ho with rfl | ⟨j, hj, rfl⟩
  · rfl
  · rw [exF_j, exF_j]
    exact evX_hd (h.2 j hj) _ _ _
theorem RT.mv {t u t' u' : TS} {b c b' c' : Nat} (h : RT t u b c) (e11 : tI t' b' 11 = tI t b 11) (e9 : ∀ i, i < 14 → tT t' (b' + 9) i = tT t (b + 9) i) (e10 : ∀ q, q < 3 → tA t' (b' + 10) q = tA t (b + 10) q) (hd : HdE t t') (r : SmR pT c c' u u') : RT t' u' b' c' := by
  obtain ⟨h1, h2, h3, h4⟩ := h
  have r4 := r 4 (Or.inl rfl) (by omega)
  refine ⟨by rw [e11, r4]; exact h1, by rw [r4]; exact h2, fun k hk => ?_, fun q hq => ?_⟩
  · rw [r4] at hk
    obtain ⟨j, hj, ht, hx⟩ := h3 k hk
    exact ⟨j, Nat.lt_of_lt_of_le hj hd.1, by rw [e9 k (by omega)]; exact ht, (hx.mv (by omega) r).hd (hd.2 j hj)⟩
  · rw [e10 q hq, cuA_mv h2.2 r]; exact h4 q hq
theorem NZ.mv {u u' : TS} {c c' : Nat} (h : NZ u c) (hc : tA u c 4 ≤ 14) (r : SmR pT c c' u u') : NZ u' c' := by
  intro k hk
  rw [r 4 (Or.inl rfl) (by omega)] at hk
  rw [r _ (Or.inr (by omega)) (by omega)]
  exact h k hk
theorem lwF_cp {t t' : TS} {b b' : Nat} (h14 : tI t b 11 ≤ 14) (e11 : tI t' b' 11 = tI t b 11) (e9 : ∀ i, i < 14 → tT t' (b' + 9) i = tT t (b + 9) i) (e10 : ∀ q, q < 3 → tA t' (b' + 10) q = tA t (b + 10) q) {q : Nat} (hq : q < 3) : lwF t' b' q = lwF t b q := by
  unfold lwF
  rw [e10 q hq, e11]
  by_cases e : 0 ≤ tA t (b + 10) q ∧ tA t (b + 10) q ≤ tI t b 11 - 1
  · rw [if_pos e, if_pos e, e9 _ (by omega)]
  · rw [if_neg e, if_neg e]
theorem dkC_cp {t t' : TS} {b b' : Nat} (ok : OK t) (h14 : tI t b 11 ≤ 14) (e11 : tI t' b' 11 = tI t b 11) (e9 : ∀ i, i < 14 → tT t' (b' + 9) i = tT t (b + 9) i) (e10 : ∀ q, q < 3 → tA t' (b' + 10) q = tA t (b + 10) q) (hd : HdE t t') {s : Nat} (a1 : tA t' (b' + 1) s = tA t (b + 1) s) (a2 : tA t' (b' + 2) s = tA t (b + 2) s) (a3 : tA t' (b' + 3) s = tA t (b + 3) s) (r v : Nat) : dkC t' b' s r v = dkC t b s r v := by
  unfold dkC
  rw [lwF_cp h14 e11 e9 e10 (by decide), a1, a2, a3]
  unfold pdF
  rw [exF_he hd (lwF_ok ok b 0)]
theorem RPl.mv {t u t' u' : TS} {b c b' c' : Nat} (h : RPl t u b c) (ok : OK t) (hn : tI t b 10 ≤ 12) (h14 : tI t b 11 ≤ 14) (e0 : tI t' b' 10 = tI t b 10) (e11 : tI t' b' 11 = tI t b 11) (a1 : ∀ i, i < 12 → tA t' (b' + 1) i = tA t (b + 1) i) (a2 : ∀ i, i < 12 → tA t' (b' + 2) i = tA t (b + 2) i) (a3 : ∀ i, i < 12 → tA t' (b' + 3) i = tA t (b + 3) i) (a4 : ∀ i, i < 12 → tA t' (b' + 4) i = tA t (b + 4) i) (a5 : ∀ i, i < 12 → tA t' (b' + 5) i = tA t (b + 5) i) (a6 : ∀ i, i < 12 → tA t' (b' + 6) i = tA t (b + 6) i) (a8 : ∀ i, i < 96 → tA t' (b' + 8) i = tA t (b + 8) i) (e9 : ∀ i, i < 14 → tT t' (b' + 9) i = tT t (b + 9) i) (e10 : ∀ q, q < 3 → tA t' (b' + 10) q = tA t (b + 10) q) (hd : HdE t t') (r : SmR pP c c' u u') : RPl t' u' b' c' := by
  obtain ⟨h1, h2, h3⟩ := h
  refine ⟨?_, ?_, ?_⟩
  · unfold HCt at h1 ⊢
    rw [e0]
    obtain ⟨k1, k2, k3⟩ := h1
    have e : ∀ s, s < (tI t b 10).toNat → tA t (b + 4) s = tA t' (b' + 4) s := fun s hs => (a4 s (by omega)).symm
    exact ⟨fun q hq => by rw [a6 q hq, k1 q hq]; exact hoF_congr e, k2.congr e, fun s hs => by rw [← e s hs]; exact k3 s hs⟩
  · intro s r' v hs hr hv
    rw [e0] at hs
    rw [a8 _ (by omega), h2 s r' v hs hr hv]
    exact (dkC_cp ok h14 e11 e9 e10 hd (a1 s (by omega)) (a2 s (by omega)) (a3 s (by omega)) r' v).symm
  · rw [e0]
    intro s hs
    obtain ⟨k1, k2⟩ := h3 s hs
    refine ⟨?_, ?_⟩
    · show tA t' (b' + 4) s = tA u' c' (32 + 5 * s)
      rw [a4 s (by omega), r _ ⟨by omega, by omega, by omega⟩ (by omega)]
      exact k1
    · show tA t' (b' + 5) s = tA u' c' (33 + 5 * s)
      rw [a5 s (by omega), r _ ⟨by omega, by omega, by omega⟩ (by omega)]
      exact k2
def tX (b : Nat) (p : Nat × Nat) : Prop := ¬ (p = (b, 11) ∨ p = (b + 9, 101) ∨ p = (b + 10, 100))
def pX (b : Nat) (p : Nat × Nat) : Prop := ¬ (p = (b, 10) ∨ p = (b, 11) ∨ p = (b + 9, 101) ∨ p = (b + 10, 100) ∨ p = (b + 1, 100) ∨ p = (b + 2, 100) ∨ p = (b + 3, 100) ∨ p = (b + 4, 100) ∨ p = (b + 5, 100) ∨ p = (b + 6, 100) ∨ p = (b + 8, 100))
theorem tX_hi {S : List (Nat × Nat)} {b : Nat} (h : ∀ p ∈ S, 45 ≤ p.1) (hb : b < 30) : ∀ p ∈ S, tX b p := fun p q e => by
  have := h p q
  rcases e with e | e | e <;> (rw [e] at this; simp only at this; omega)
theorem pX_hi {S : List (Nat × Nat)} {b : Nat} (h : ∀ p ∈ S, 45 ≤ p.1) (hb : b < 30) : ∀ p ∈ S, pX b p := fun p q e => by
  have := h p q
  rcases e with e | e | e | e | e | e | e | e | e | e | e <;> (rw [e] at this; simp only at this; omega)
theorem frT {S : List (Nat × Nat)} {t u : TS} (f : FrD S t u) (h : ∀ p ∈ S, 68 ≤ p.1) (c : Nat) (hc : c < 68) (i : Nat) : tT u c i = tT t c i := f.2.2 c (fun q => by have := h _ q; simp only at this; omega) i
theorem RT.st {S1 S2 : List (Nat × Nat)} {t t1 t2 : TS} {b c : Nat} (v : RT t t b c) (f1 : FrD S1 t t1) (f2 : FrD S2 t1 t2) (h1 : ∀ p ∈ S1, p.1 < 68) (h2 : ∀ p ∈ S2, 68 ≤ p.1) (hb : b < 30) (hc : 68 ≤ c) (a : ∀ p ∈ S1, tX b p) (hd : HdE t t2) (r : SmR pT c c t1 t2) : RT t2 t2 b c := by
  refine v.mv ?_ (fun i _ => ?_) (fun q _ => ?_) hd (fun i hi h => (r i hi h).trans (grA f1 h1 c hc i))
  · rw [frI f2 h2 b 11 (by omega)]; exact f1.1 _ _ (fun q => a _ q (Or.inl rfl))
  · rw [frT f2 h2 (b + 9) (by omega)]; exact f1.2.2 _ (fun q => a _ q (Or.inr (Or.inl rfl))) i
  · rw [frA f2 h2 (b + 10) (by omega)]; exact f1.2.1 _ (fun q => a _ q (Or.inr (Or.inr rfl))) q
theorem RPl.st {S1 S2 : List (Nat × Nat)} {t t1 t2 : TS} {b c : Nat} (v : RPl t t b c) (ok : OK t) (hn : tI t b 10 ≤ 12) (h14 : tI t b 11 ≤ 14) (f1 : FrD S1 t t1) (f2 : FrD S2 t1 t2) (h1 : ∀ p ∈ S1, p.1 < 68) (h2 : ∀ p ∈ S2, 68 ≤ p.1) (hb : b < 30) (hc : 68 ≤ c) (a : ∀ p ∈ S1, pX b p) (hd : HdE t t2) (r : SmR pP c c t1 t2) : RPl t2 t2 b c := by
  have A : ∀ k, k < 11 → (b + k, 100) ∉ S1 → ∀ i, tA t2 (b + k) i = tA t (b + k) i := fun k hk q i => by rw [frA f2 h2 (b + k) (by omega)]; exact f1.2.1 _ q i
  have I : ∀ k, (b, k) ∉ S1 → tI t2 b k = tI t b k := fun k q => by rw [frI f2 h2 b k (by omega)]; exact f1.1 _ _ q
  refine v.mv ok hn h14 (I 10 (fun q => a _ q (by simp))) (I 11 (fun q => a _ q (by simp))) (fun i _ => A 1 (by decide) (fun q => a _ q (by simp)) i) (fun i _ => A 2 (by decide) (fun q => a _ q (by simp)) i) (fun i _ => A 3 (by decide) (fun q => a _ q (by simp)) i) (fun i _ => A 4 (by decide) (fun q => a _ q (by simp)) i) (fun i _ => A 5 (by decide) (fun q => a _ q (by simp)) i) (fun i _ => A 6 (by decide) (fun q => a _ q (by simp)) i) (fun i _ => A 8 (by decide) (fun q => a _ q (by simp)) i) (fun i _ => ?_) (fun i _ => A 10 (by decide) (fun q => a _ q (by simp)) i) hd (fun i hi h => (r i hi h).trans (grA f1 h1 c hc i))
  rw [frT f2 h2 (b + 9) (by omega)]
  exact f1.2.2 _ (fun q => a _ q (by simp)) i
theorem sm_all {c : Nat} {u u' : TS} (P : Nat → Prop) (h : ∀ i, tA u' c i = tA u c i) : SmR P c c u u' := fun i _ _ => h i
/-! what a text gives, the same on both sides -/
theorem ex_eq {t u : TS} {b c q : Nat} (g : GD t) (h : RT t u b c) (hq : q < 3) {d f0 f1 f2 f2' : Int} (hf : f2 = f2' ∨ q = 1) : exF t (lwF t b q) d f0 f1 f2 = exR u c q d f0 f1 f2' := by
  obtain ⟨h1, h2, h3, h4⟩ := h
  have bb := coF_b (rkA u c) q (tA u c 4).toNat
  have hc : coF (rkA u c) q (tA u c 4).toNat = cuA u c q := rfl
  rw [hc] at bb
  unfold lwF exR
  rw [h4 q hq]
  by_cases e : cuA u c q = -1
  · rw [if_neg (by omega), if_pos e]
    rfl
  · rw [if_pos (by omega), if_neg e]
    obtain ⟨j, hj, ht, h96, ek, ea, ec⟩ := h3 (cuA u c q).toNat (by omega)
    have ha := coF_at (A := rkA u c) (q := q) e
    have ha2 : tA u c (89 + 2 * (cuA u c q).toNat) / 1000 = (q : Int) := ha
    rw [ht, exF_j]
    have en : rnA u c (cuA u c q).toNat = (tx t j).2.2.1.length := by
      unfold rnA
      omega
    unfold evX
    rw [en]
    refine evR_cg (fun i hi => ⟨(ec i hi).symm, ?_⟩)
    rcases hf with hf | hf
    · exact Or.inl hf
    · refine Or.inr ?_
      have e9 : rcA u c (cuA u c q).toNat i = xcF (tx t j) i := ec i hi
      rw [e9]
      have vs := (g j hj).2.2.1 i hi
      have ex : xcF (tx t j) i = trF (xsF (tx t j) i, xvF (tx t j) i) := rfl
      have hx1 : (tx t j).1 = 1 := by omega
      rw [hx1] at vs
      have vs2 := vs_c vs
      rw [ex]
      rcases vs2 with k | k | k | k
      · omega
      · rcases vs with w | w | w | w
        · omega
        · have := w.2.2.2 rfl; omega
        · omega
        · exact absurd (show sgF (xsF (tx t j) i) = 0 by rw [k.1]; rfl) w
      · omega
      · omega
def OX (t u : TS) (b c : Nat) : Prop := GD t ∧ RT t u b c ∧ RG t u b (b + 1) (b + 2) (b + 3) (b + 7) c ∧ RPl t u b c ∧ (0 ≤ tA u c 1 ∧ tA u c 1 ≤ 12) ∧ ∀ s, s < 12 → (0 ≤ (RPc u c).1 s ∧ (RPc u c).1 s ≤ 12) ∧ (0 ≤ (RPc u c).2 s ∧ (RPc u c).2 s ≤ 1)
theorem OX.n {t u : TS} {b c : Nat} (h : OX t u b c) : tI t b 10 = tA u c 1 := h.2.2.1.1.1
theorem dk_eq {t u : TS} {b c : Nat} (h : OX t u b c) {s : Nat} (hs : (s : Int) < tA u c 1) (r v : Nat) : dkC t b s r v = dkS u c s r v := by
  obtain ⟨g, rt, rg, -⟩ := h
  obtain ⟨a1, a2, a3⟩ := rg.2.2 s hs
  unfold dkC dkS dkA pdF hvA
  rw [a1, a2, a3, ex_eq g rt (q := 0) (by decide) (Or.inl rfl)]
  rfl
theorem oc_eq {t u : TS} {b c : Nat} (h : OX t u b c) : AgO (tI t b 10).toNat (OC t b) (OA u c) := by
  intro s p v hs hp hv
  have hn := h.n
  have hsn : (s : Int) < tA u c 1 := by omega
  have D := h.2.2.2.1.2.1
  have W := h.2.2.1.2.1
  show ofF (tA t (b + 8)) (tA t (b + 7)) s p v = OA u c s p v
  unfold ofF OA
  rw [if_pos hp]
  have w1 := W (2 * p) (by omega)
  have w2 := W (2 * p + 1) (by omega)
  rw [show 5 + (2 * p + 1) = 6 + 2 * p by omega] at w2
  have d1 := D s (p / 3) v (by omega) (by omega) hv
  have d2 := D s (p / 3) (1 - v) (by omega) (by omega) (by omega)
  rw [show (((s : Int) * 4 + (p : Int) / 3) * 2 + (v : Int)).toNat = (s * 4 + p / 3) * 2 + v by omega, show (((s : Int) * 4 + (p : Int) / 3) * 2 + (1 - (v : Int))).toNat = (s * 4 + p / 3) * 2 + (1 - v) by omega, show (2 * (p : Int)).toNat = 2 * p by omega, show (2 * (p : Int) + 1).toNat = 2 * p + 1 by omega, d1, d2, w1, w2, dk_eq h hsn, dk_eq h hsn]
/-! days: what they keep -/
def UIn (n : Nat) (x : GPU) : Prop := ∀ s, s < n → 0 ≤ x.2 s ∧ x.2 s ≤ 1
def PIn (n : Nat) (x : GPU) : Prop := InjP x.1 n ∧ ∀ s, s < n → 0 ≤ x.1 s ∧ x.1 s ≤ 12
theorem lyF_in {n : Nat} {O : Nat → Nat → Nat → Int} {r : Int} {x : GPU} (hr : 0 ≤ r ∧ r ≤ 3) : (UIn n x → UIn n (lyF n O r x)) ∧ (PIn n x → PIn n (lyF n O r x)) := by
  unfold lyF
  rcases feF_r (H := HF x.1 n) hr with e | e
  · rw [if_pos e]; exact ⟨id, id⟩
  · rw [if_neg (by omega)]
    have lr := lbF_r (fun s u => O s (feF (HF x.1 n) r).toNat u) x.1 (2 * n)
    split
    · exact ⟨id, id⟩
    · refine ⟨fun h s hs => ?_, fun h => ⟨?_, fun s hs => ?_⟩⟩
      · show 0 ≤ upF _ _ _ s ∧ upF _ _ _ s ≤ 1
        unfold upF
        split
        · omega
        · exact h s hs
      · refine h.1.up (fun _ q hq hp => ?_)
        have hno := hoF_no (P := x.1) (p := (((feF (HF x.1 n) r).toNat : Nat) : Int)) (n := n) e.2.2 q hq
        rw [Int.toNat_of_nonneg e.1] at hno
        exact absurd hp hno
      · show 0 ≤ upF _ _ _ s ∧ upF _ _ _ s ≤ 12
        unfold upF
        split
        · omega
        · exact h.2 s hs
theorem tuF_in {n : Nat} {p : Int} {x : GPU} : (UIn n x → UIn n (tuF n p x)) ∧ (PIn n x → PIn n (tuF n p x)) := by
  unfold tuF
  split
  · exact ⟨id, id⟩
  · rename_i e
    have b := hoF_b x.1 p n
    refine ⟨fun h s hs => ?_, id⟩
    have h2 := h (hoF x.1 p n).toNat (by omega)
    show 0 ≤ upF _ _ _ s ∧ upF _ _ _ s ≤ 1
    unfold upF
    split
    · omega
    · exact h s hs
theorem dysF_in {n : Nat} {O : Nat → Nat → Nat → Int} {w z : Int} {x : GPU} : ∀ k : Nat, (UIn n x → UIn n (dysF n O w z k x)) ∧ (PIn n x → PIn n (dysF n O w z k x))
  | 0 => ⟨id, id⟩
  | k + 1 => by
    have ih := dysF_in (n := n) (O := O) (w := w) (z := z) (x := x) k
    have r := drF_r (znF (zdsF k z w))
    have l := lyF_in (n := n) (O := O) (r := drF (znF (zdsF k z w)) % 4) (x := dysF n O w z k x) (by omega)
    show (_ → UIn n (dyF n O w (zdsF k z w) (dysF n O w z k x))) ∧ (_ → PIn n (dyF n O w (zdsF k z w) (dysF n O w z k x)))
    unfold dyF
    split
    · exact ⟨fun h => tuF_in.1 (l.1 (ih.1 h)), fun h => tuF_in.2 (l.2 (ih.2 h))⟩
    · exact ⟨fun h => l.1 (ih.1 h), fun h => l.2 (ih.2 h)⟩
theorem OX.cp {t u : TS} {b c : Nat} (h : OX t u b c) {s : Nat} (hs : s < (tI t b 10).toNat) : (CP t b).1 s = (RPc u c).1 s ∧ (CP t b).2 s = (RPc u c).2 s := h.2.2.2.1.2.2 s hs
theorem OX.uin {t u : TS} {b c : Nat} (h : OX t u b c) : UIn (tI t b 10).toNat (CP t b) := fun s hs => by
  have hn := h.n
  have h12 := h.2.2.2.2.1
  rw [(h.cp hs).2]
  exact (h.2.2.2.2.2 s (by omega)).2
theorem OX.pin {t u : TS} {b c : Nat} (h : OX t u b c) : PIn (tI t b 10).toNat (CP t b) := ⟨h.2.2.2.1.1.2.1, fun s hs => by
  have hn := h.n
  have h12 := h.2.2.2.2.1
  rw [(h.cp hs).1]
  exact (h.2.2.2.2.2 s (by omega)).1⟩
theorem OX.ag {t u : TS} {b c : Nat} (h : OX t u b c) (k : Nat) : Agr (tI t b 10).toNat (xG t b k) (xA u c k) := by
  obtain ⟨a1, a2, a3, a4⟩ := h.2.2.1.1
  have o := oc_eq h
  have g := h.2.2.2.1.2.2
  unfold xG xA
  rw [a2, a4, ← a1]
  exact dysF_agr g o k
theorem OX.pc {t u : TS} {b c : Nat} (h : OX t u b c) (k : Nat) : pcX t b k = pcA u c k := by
  have hn := h.n
  unfold pcX pcA
  rw [← hn]
  exact picG_cg2 (h.ag k) (oc_eq h) ((dysF_in k).1 h.uin)
theorem OX.lr {t u : TS} {b c : Nat} (h : OX t u b c) {s : Nat} (hs : s < (tI t b 10).toNat) : tA t (b + 2) s = LA u c s ∧ tA t (b + 3) s = RA u c s := by
  have hn := h.n
  obtain ⟨-, a2, a3⟩ := h.2.2.1.2.2 s (by omega)
  exact ⟨a2, a3⟩
theorem OX.hv {t u : TS} {b c : Nat} (h : OX t u b c) {s : Nat} (hs : s < (tI t b 10).toNat) : hvT t b s = hvA u c s := by
  have hn := h.n
  obtain ⟨a1, a2, a3⟩ := h.2.2.1.2.2 s (by omega)
  unfold hvT hvA
  rw [a1, a2, a3]
theorem OX.mt {t u : TS} {b c : Nat} (h : OX t u b c) (k : Nat) : mtX t b k = mtA u c k := by
  have hn := h.n
  unfold mtX mtA
  rw [← hn]
  exact matG_cg (h.ag k) (fun s hs => h.lr hs)
theorem OX.cn {t u : TS} {b c : Nat} (h : OX t u b c) (k : Nat) : cnX t b k = caA u c k := by
  have hn := h.n
  have p : PIn (tI t b 10).toNat (xG t b k) := (dysF_in k).2 h.pin
  unfold cnX caA cnG
  rw [← hn, cn_ca _ p.1 p.2]
  exact caF_congr _ (fun s hs => (h.ag k s hs).1)
theorem OX.at {t u : TS} {b c : Nat} (h : OX t u b c) (k : Nat) (p : Int) : atX t b k p = atA u c k p := by
  have hn := h.n
  unfold atX atA
  rw [← hn]
  exact hoF_congr (fun s hs => (h.ag k s hs).1)
theorem OX.ph {t u : TS} {b c : Nat} (h : OX t u b c) : phG (tI t b 10).toNat (CP t b) = phG (tA u c 1).toNat (RPc u c) := by
  have hn := h.n
  rw [← hn]
  exact phG_cg h.2.2.2.1.2.2
theorem OX.fl {t u : TS} {b c : Nat} (h : OX t u b c) {p : Nat} (hp : p ≤ 12) : flF (hvT t b) (HF (CP t b).1 (tI t b 10).toNat) p = flF (hvA u c) (HF (RPc u c).1 (tA u c 1).toNat) p := by
  have hn := h.n
  rw [← hn]
  exact flF_cg h.2.2.2.1.2.2 (fun s hs => h.hv hs) hp
theorem OX.bf {t u : TS} {b c : Nat} (h : OX t u b c) {p : Nat} (hp : p < 12) : bfF (fun s => min (OC t b s p 0) (OC t b s p 1)) (tI t b 10).toNat = bfF (fun s => min (OA u c s p 0) (OA u c s p 1)) (tA u c 1).toNat := by
  have hn := h.n
  have o := oc_eq h
  rw [← hn]
  refine bfF_cg (fun s hs => ?_)
  rw [o s p 0 hs hp (by decide), o s p 1 hs hp (by decide)]
theorem OX.lo {t u : TS} {b c : Nat} (h : OX t u b c) (k : Nat) : bfF (fun s => picG (tI t b 10).toNat (OC t b) (dysF (tI t b 10).toNat (OC t b) (tI t b 12) (tI t b 14) k (upF (tA t (b + 4)) s 13, tA t (b + 5)))) (tI t b 10).toNat = bfF (fun s => picG (tA u c 1).toNat (OA u c) (dysF (tA u c 1).toNat (OA u c) (tA u c 3) (tA u c 0) k (upF (RPc u c).1 s 13, (RPc u c).2))) (tA u c 1).toNat := by
  obtain ⟨a1, a2, a3, a4⟩ := h.2.2.1.1
  have o := oc_eq h
  rw [a2, a4, ← a1]
  refine bfF_cg (fun s hs => ?_)
  have g : Agr (tI t b 10).toNat (upF (tA t (b + 4)) s 13, tA t (b + 5)) (upF (RPc u c).1 s 13, (RPc u c).2) := by
    intro q hq
    have e := h.cp hq
    refine ⟨?_, e.2⟩
    show upF (tA t (b + 4)) s 13 q = upF (RPc u c).1 s 13 q
    unfold upF
    split
    · rfl
    · exact e.1
  refine picG_cg2 (dysF_agr g o k) o ((dysF_in k).1 ?_)
  exact fun q hq => h.uin q hq
theorem OX.up {t u u' : TS} {b c : Nat} (h : OX t u b c) (r : ∀ i, tA u' c i = tA u c i) : OX t u' b c := by
  obtain ⟨g, rt, rg, pl, n, x⟩ := h
  have e : RPc u' c = RPc u c := by
    unfold RPc
    congr 1 <;> (funext s; exact r _)
  obtain ⟨t1, t2, t3, t4⟩ := rt
  refine ⟨g, ?_, rg.r r, ⟨pl.1, pl.2.1, by rw [e]; exact pl.2.2⟩, by rw [r]; exact n, by rw [e]; exact x⟩
  refine ⟨by rw [r]; exact t1, by rw [r]; exact t2, fun k hk => ?_, fun q hq => by rw [cuA_mv t2.2 (sm_all pT r)]; exact t4 q hq⟩
  rw [r] at hk
  obtain ⟨j, hj, ht, hx⟩ := t3 k hk
  exact ⟨j, hj, ht, hx.mv (by omega) (sm_all pT r)⟩
theorem OX.m1 {t : TS} (ok : OK t) (g : GD t) (rt : RT t t 1 69) (rg : RG t t 1 2 3 4 8 69) (pl : RPl t t 1 69) : OX t t 1 69 := ⟨g, rt, rg, pl, ok.a (ax_69 nr_1), fun s hs => ⟨ok.a (ax_69 (nr_S3 (s := s) ⟨rfl, hs⟩)), ok.a (ax_69 (nr_S4 (s := s) ⟨rfl, hs⟩))⟩⟩
theorem OX.m2 {t : TS} (ok : OK t) (g : GD t) (rt : RT t t 12 70) (rg : RG t t 12 13 14 15 19 70) (pl : RPl t t 12 70) : OX t t 12 70 := ⟨g, rt, rg, pl, ok.a (ax_70 nr_1), fun s hs => ⟨ok.a (ax_70 (nr_S3 (s := s) ⟨rfl, hs⟩)), ok.a (ax_70 (nr_S4 (s := s) ⟨rfl, hs⟩))⟩⟩
