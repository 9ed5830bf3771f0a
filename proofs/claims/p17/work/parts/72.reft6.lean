theorem WF_add {t u : TS} {T c : Nat} {f : Nat → Int} (h : WF t 69) (hT : tA t 69 4 = (T : Int)) (h4 : tA u 69 4 = (T : Int) + 1) (hk : tA u 69 (89 + 2 * T) % 1000 = (c : Int)) (hc : c ≤ 96) (hw : wfC f c) (hf : ∀ j, j < c → tA u 69 (117 + 96 * T + j) = f j) (hT14 : T < 14) (ho : ∀ i, (89 ≤ i ∧ i < 117 ∧ ¬ i = 89 + 2 * T ∧ ¬ i = 90 + 2 * T) ∨ (117 ≤ i ∧ (i < 117 + 96 * T ∨ 213 + 96 * T ≤ i)) → tA u 69 i = tA t 69 i) : WF u 69 := by
  intro k hk2
  rw [h4] at hk2
  by_cases e : k = T
  · subst e
    rw [hk]
    refine ⟨by omega, ?_⟩
    rw [show ((c : Int)).toNat = c by omega]
    exact wfC_congr (fun j hj => (hf j hj).symm) hw
  · have hlt : (k : Int) < tA t 69 4 := by omega
    obtain ⟨h1, h2⟩ := h k hlt
    rw [ho (89 + 2 * k) (Or.inl ⟨by omega, by omega, by omega, by omega⟩)]
    refine ⟨h1, wfC_congr (fun j hj => (ho _ (Or.inr ⟨by omega, by omega⟩)).symm) h2⟩
