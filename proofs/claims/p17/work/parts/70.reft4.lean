def EN (t : TS) (w p : Int) : Prop := EI t w ∧ noF (tA t 79) (tI t 68 22).toNat = p
theorem EN.mv {t u : TS} {w p : Int} (e : EN t w p) (h1 : tI u 68 19 = tI t 68 19) (h2 : tI u 68 22 = tI t 68 22) (h3 : ∀ i, tA u 78 i = tA t 78 i) (h4 : ∀ i, tA u 79 i = tA t 79 i) : EN u w p := by
  refine ⟨e.1.mv h1 h2 h3 h4, ?_⟩
  rw [h2, noF_congr (fun j _ => h4 j)]
  exact e.2
theorem EN.fr {t u : TS} {w p : Int} {S : List (Nat × Nat)} (e : EN t w p) (f : Fr S t u) (h1 : (68, 19) ∉ S) (h2 : (68, 22) ∉ S) (h3 : (78, 100) ∉ S) (h4 : (79, 100) ∉ S) : EN u w p := e.mv (f.1 _ _ h1) (f.1 _ _ h2) (f.2.1 _ h3) (f.2.1 _ h4)
theorem EN.uI {t u : TS} {w p z : Int} {c f : Nat} (e : EN t w p) (h : u = uI t c f z) (h1 : ¬ (68 = c ∧ 19 = f)) (h2 : ¬ (68 = c ∧ 22 = f)) : EN u w p := e.mv (by rw [h, tI_uI, if_neg h1]) (by rw [h, tI_uI, if_neg h2]) (fun i => by rw [h, tA_uI]) (fun i => by rw [h, tA_uI])
theorem EN.uAo {t u : TS} {w p z : Int} {c i : Nat} (e : EN t w p) (h : u = uA t c i z) (h1 : ¬ 78 = c) (h2 : ¬ 79 = c) : EN u w p := e.mv (by rw [h]; rfl) (by rw [h]; rfl) (fun j => by rw [h, tA_uA, if_neg (fun q => h1 q.1)]) (fun j => by rw [h, tA_uA, if_neg (fun q => h2 q.1)])
theorem EN.st {t u : TS} {p : Int} {S : List (Nat × Nat)} (e : EN t 1 p) (f : Fr S t u) (h4 : (79, 100) ∉ S) (h : EI u 1) (hn : noF (tA t 79) (tI u 68 22).toNat = noF (tA t 79) (tI t 68 22).toNat) : EN u 1 p := by
  refine ⟨h, ?_⟩
  rw [noF_congr (fun j _ => f.2.1 79 h4 j), hn]
  exact e.2
theorem EN.psh {t u : TS} {p v : Int} (e : EN t 0 p) (hv : v = -10 ∨ v = -11) (h0 : 0 ≤ tI t 68 22) (h2 : tI u 68 22 = tI t 68 22 + 1) (h1 : tI u 68 19 = tI t 68 19) (h3 : ∀ i, tA u 78 i = tA t 78 i) (h4 : ∀ i, tA u 79 i = if i = (tI t 68 22).toNat then v else tA t 79 i) : EN u 0 (p + (if v = -11 then 1 else 0)) := by
  have hh : (tI u 68 22).toNat = (tI t 68 22).toNat + 1 := by omega
  have hc : ∀ j, j < (tI t 68 22).toNat → tA u 79 j = tA t 79 j := fun j hj => by rw [h4 j, if_neg (by omega)]
  have hv2 : tA u 79 (tI t 68 22).toNat = v := by rw [h4, if_pos rfl]
  constructor
  · unfold EI
    rw [hh, h1]
    exact EIf.congr (EIf.psh (g' := tA u 79) e.1 (by rw [hv2]; exact hv) hc) (fun j _ => (h3 j).symm) (fun j _ => rfl)
  · rw [hh]
    show noF (tA u 79) (tI t 68 22).toNat + (if tA u 79 (tI t 68 22).toNat = -11 then 1 else 0) = _
    rw [noF_congr hc, e.2, hv2]
theorem EN.bin {t u : TS} {p v : Int} (e : EN t 1 p) (hv : -9 ≤ v ∧ v ≤ -1) (h0 : 0 ≤ tI t 68 22) (h2 : tI u 68 22 = tI t 68 22 + 1) (h1 : tI u 68 19 = tI t 68 19) (h3 : ∀ i, tA u 78 i = tA t 78 i) (h4 : ∀ i, tA u 79 i = if i = (tI t 68 22).toNat then v else tA t 79 i) : EN u 0 p := by
  have hh : (tI u 68 22).toNat = (tI t 68 22).toNat + 1 := by omega
  have hc : ∀ j, j < (tI t 68 22).toNat → tA u 79 j = tA t 79 j := fun j hj => by rw [h4 j, if_neg (by omega)]
  have hv2 : tA u 79 (tI t 68 22).toNat = v := by rw [h4, if_pos rfl]
  constructor
  · unfold EI
    rw [hh, h1]
    exact EIf.congr (EIf.bin (g' := tA u 79) e.1 (by rw [hv2]; exact hv) hc) (fun j _ => (h3 j).symm) (fun j _ => rfl)
  · rw [hh]
    show noF (tA u 79) (tI t 68 22).toNat + (if tA u 79 (tI t 68 22).toNat = -11 then 1 else 0) = _
    rw [noF_congr hc, e.2, hv2, if_neg (by omega)]
    omega
theorem EN.drp {t u : TS} {w p : Int} (e : EN t w p) (h0 : 0 < tI t 68 22) (hv : tA t 79 (tI t 68 22 - 1).toNat = -11) (h2 : tI u 68 22 = tI t 68 22 - 1) (h1 : tI u 68 19 = tI t 68 19) (h3 : ∀ i, tA u 78 i = tA t 78 i) (h4 : ∀ i, tA u 79 i = tA t 79 i) : EN u w (p - 1) := by
  have hh : (tI t 68 22).toNat = (tI u 68 22).toNat + 1 := by omega
  have hi : (tI t 68 22 - 1).toNat = (tI u 68 22).toNat := by omega
  rw [hi] at hv
  have e1 : EIf (tA t 78) (tA t 79) (tI t 68 19).toNat ((tI u 68 22).toNat + 1) w := by rw [← hh]; exact e.1
  have e2 := e.2
  rw [hh] at e2
  have e3 : noF (tA t 79) ((tI u 68 22).toNat + 1) = noF (tA t 79) (tI u 68 22).toNat + (if tA t 79 (tI u 68 22).toNat = -11 then 1 else 0) := rfl
  rw [e3, if_pos hv] at e2
  constructor
  · unfold EI
    rw [h1]
    exact EIf.congr (EIf.drp e1 hv) (fun j _ => (h3 j).symm) (fun j _ => (h4 j).symm)
  · rw [noF_congr (fun j _ => h4 j)]
    omega
theorem EN.opd {t u : TS} {p v : Int} (e : EN t 0 p) (hv : 0 ≤ v) (h0 : 0 ≤ tI t 68 19) (h1 : tI u 68 19 = tI t 68 19 + 1) (h2 : tI u 68 22 = tI t 68 22) (h4 : ∀ i, tA u 79 i = tA t 79 i) (h3 : ∀ i, tA u 78 i = if i = (tI t 68 19).toNat then v else tA t 78 i) : EN u 1 p := by
  have hc : (tI u 68 19).toNat = (tI t 68 19).toNat + 1 := by omega
  constructor
  · unfold EI
    rw [hc, h2]
    exact EIf.congr (EIf.opd (f' := tA u 78) e.1 (by rw [h3, if_pos rfl]; exact hv) (fun j hj => by rw [h3 j, if_neg (by omega)])) (fun j _ => rfl) (fun j _ => (h4 j).symm)
  · rw [h2, noF_congr (fun j _ => h4 j)]
    exact e.2
theorem EN.top {t : TS} {w p : Int} (e : EN t w p) (hp : 0 < p) (h0 : 0 ≤ tI t 68 22) : 0 < tI t 68 22 := by
  rcases Int.lt_or_le 0 (tI t 68 22) with h | h
  · exact h
  · exfalso
    have e2 := e.2
    rw [show (tI t 68 22).toNat = 0 by omega] at e2
    have : noF (tA t 79) 0 = 0 := rfl
    omega
