/-! ===== the reference's texts ===== -/
def nbF (g : Nat → Int) : Nat → Int
  | 0 => 0
  | h + 1 => nbF g h + (if -9 ≤ g h ∧ g h ≤ -1 then 1 else 0)
def noF (g : Nat → Int) : Nat → Int
  | 0 => 0
  | h + 1 => noF g h + (if g h = -11 then 1 else 0)
theorem nbF_nn (g : Nat → Int) : ∀ h, 0 ≤ nbF g h
  | 0 => Int.le_refl 0
  | h + 1 => by
    have := nbF_nn g h
    unfold nbF
    split <;> omega
theorem nbF_congr {f g : Nat → Int} : ∀ {n : Nat}, (∀ j, j < n → f j = g j) → nbF f n = nbF g n
  | 0, _ => rfl
  | n + 1, h => by
    unfold nbF
    rw [nbF_congr (fun j hj => h j (by omega)), h n (by omega)]
theorem noF_congr {f g : Nat → Int} : ∀ {n : Nat}, (∀ j, j < n → f j = g j) → noF f n = noF g n
  | 0, _ => rfl
  | n + 1, h => by
    unfold noF
    rw [noF_congr (fun j hj => h j (by omega)), h n (by omega)]
def EIf (f g : Nat → Int) (c h : Nat) (w : Int) : Prop := wfC f c ∧ depF f c = nbF g h + w ∧ ∀ j, j < h → g j < 0
theorem EIf.congr {f g f' g' : Nat → Int} {c h : Nat} {w : Int} (e : EIf f g c h w) (h1 : ∀ j, j < c → f j = f' j) (h2 : ∀ j, j < h → g j = g' j) : EIf f' g' c h w := by
  refine ⟨wfC_congr h1 e.1, ?_, fun j hj => ?_⟩
  · rw [← depF_congr h1, ← nbF_congr h2]
    exact e.2.1
  · rw [← h2 j hj]
    exact e.2.2 j hj
theorem wfC_push {f : Nat → Int} {c : Nat} (h : wfC f c) (k : (f c < 0 → 1 ≤ depF f c) ∧ (f c < 0 → ¬ f c = -10 → 2 ≤ depF f c)) : wfC f (c + 1) := by
  intro j hj
  by_cases e : j = c
  · subst e; exact k
  · exact h j (by omega)
theorem EIf.pop {f f' g : Nat → Int} {c h : Nat} (e : EIf f g c (h + 1) 1) (hg : -10 ≤ g h) (hf : f' c = g h) (hc : ∀ j, j < c → f' j = f j) : EIf f' g (c + 1) h 1 := by
  obtain ⟨e1, e2, e3⟩ := e
  have d : depF f' c = depF f c := depF_congr hc
  have w : wfC f' c := wfC_congr (fun j hj => (hc j hj).symm) e1
  have n1 : nbF g (h + 1) = nbF g h + (if -9 ≤ g h ∧ g h ≤ -1 then 1 else 0) := rfl
  have n0 := nbF_nn g h
  have gneg := e3 h (by omega)
  have dd : depF f' (c + 1) = if 0 ≤ f' c then depF f' c + 1 else if f' c = -10 then depF f' c else depF f' c - 1 := rfl
  rw [hf, d, if_neg (by omega)] at dd
  refine ⟨wfC_push w ?_, ?_, fun j hj => e3 j (by omega)⟩
  · rw [hf, d, e2, n1]
    refine ⟨fun _ => ?_, fun _ hn => ?_⟩
    · split <;> omega
    · rw [if_pos (by omega)]; omega
  · rw [dd]
    by_cases hn : g h = -10
    · rw [if_pos hn, e2, n1, if_neg (by omega)]; omega
    · rw [if_neg hn, e2, n1, if_pos (by omega)]; omega
theorem EIf.opd {f f' g : Nat → Int} {c h : Nat} (e : EIf f g c h 0) (hf : 0 ≤ f' c) (hc : ∀ j, j < c → f' j = f j) : EIf f' g (c + 1) h 1 := by
  obtain ⟨e1, e2, e3⟩ := e
  have d : depF f' c = depF f c := depF_congr hc
  have w : wfC f' c := wfC_congr (fun j hj => (hc j hj).symm) e1
  have dd : depF f' (c + 1) = if 0 ≤ f' c then depF f' c + 1 else if f' c = -10 then depF f' c else depF f' c - 1 := rfl
  rw [d, if_pos hf] at dd
  refine ⟨wfC_push w ⟨fun q => ?_, fun q => ?_⟩, ?_, e3⟩
  · omega
  · omega
  · rw [dd, e2]; omega
theorem EIf.psh {f g g' : Nat → Int} {c h : Nat} (e : EIf f g c h 0) (hg : g' h = -10 ∨ g' h = -11) (hc : ∀ j, j < h → g' j = g j) : EIf f g' c (h + 1) 0 := by
  obtain ⟨e1, e2, e3⟩ := e
  have n1 : nbF g' (h + 1) = nbF g' h + (if -9 ≤ g' h ∧ g' h ≤ -1 then 1 else 0) := rfl
  rw [nbF_congr hc, if_neg (by omega)] at n1
  refine ⟨e1, by rw [n1, e2]; omega, fun j hj => ?_⟩
  by_cases q : j = h
  · subst q; omega
  · rw [hc j (by omega)]; exact e3 j (by omega)
theorem EIf.bin {f g g' : Nat → Int} {c h : Nat} (e : EIf f g c h 1) (hg : -9 ≤ g' h ∧ g' h ≤ -1) (hc : ∀ j, j < h → g' j = g j) : EIf f g' c (h + 1) 0 := by
  obtain ⟨e1, e2, e3⟩ := e
  have n1 : nbF g' (h + 1) = nbF g' h + (if -9 ≤ g' h ∧ g' h ≤ -1 then 1 else 0) := rfl
  rw [nbF_congr hc, if_pos hg] at n1
  refine ⟨e1, by rw [n1, e2]; omega, fun j hj => ?_⟩
  by_cases q : j = h
  · subst q; omega
  · rw [hc j (by omega)]; exact e3 j (by omega)
theorem EIf.drp {f g : Nat → Int} {c h : Nat} {w : Int} (e : EIf f g c (h + 1) w) (hg : g h = -11) : EIf f g c h w := by
  obtain ⟨e1, e2, e3⟩ := e
  have n1 : nbF g (h + 1) = nbF g h + (if -9 ≤ g h ∧ g h ≤ -1 then 1 else 0) := rfl
  rw [if_neg (by omega)] at n1
  exact ⟨e1, by rw [e2, n1]; omega, fun j hj => e3 j (by omega)⟩
def EI (t : TS) (w : Int) : Prop := EIf (tA t 78) (tA t 79) (tI t 68 19).toNat (tI t 68 22).toNat w
theorem EI.mv {t u : TS} {w : Int} (e : EI t w) (h1 : tI u 68 19 = tI t 68 19) (h2 : tI u 68 22 = tI t 68 22) (h3 : ∀ i, tA u 78 i = tA t 78 i) (h4 : ∀ i, tA u 79 i = tA t 79 i) : EI u w := by
  unfold EI
  rw [h1, h2]
  exact EIf.congr e (fun j _ => (h3 j).symm) (fun j _ => (h4 j).symm)
theorem EI.fr {t u : TS} {w : Int} {S : List (Nat × Nat)} (e : EI t w) (f : Fr S t u) (h1 : (68, 19) ∉ S) (h2 : (68, 22) ∉ S) (h3 : (78, 100) ∉ S) (h4 : (79, 100) ∉ S) : EI u w := e.mv (f.1 _ _ h1) (f.1 _ _ h2) (f.2.1 _ h3) (f.2.1 _ h4)
def nmF (k x : Int) : Int := if k = 0 then (if x = 115 then 0 else if x = 114 then 1 else if x = 107 then 2 else -1) else if k = 1 then (if x = 112 then 0 else if x = 109 then 1 else -1) else (if x = 108 then 0 else if x = 114 then 1 else if x = 116 then 2 else -1)
theorem kr_s {w : Int} (h : 0 ≤ w ∧ w ≤ 3) : (kR w.toNat).1 = (kR w.toNat).2 ∧ (w = 0 → (kR w.toNat).1 = 0) ∧ (w = 1 → (kR w.toNat).1 = 4) ∧ (w = 2 → (kR w.toNat).1 = 7) ∧ (w = 3 → (kR w.toNat).1 = 11) := by
  have : w = 0 ∨ w = 1 ∨ w = 2 ∨ w = 3 := by omega
  rcases this with rfl | rfl | rfl | rfl <;> decide
