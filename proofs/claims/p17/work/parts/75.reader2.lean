theorem isS_nm {q : Nat} (h : q = 1000006 ∨ q = 1000007 ∨ q = 1000008) : ab_isS q = true := by
  rcases h with rfl | rfl | rfl <;> rfl
theorem c_ixN {d q : Nat} (t : TS) {c : Int} (hq : q = 1000006 ∨ q = 1000007 ∨ q = 1000008) (hc : 97 ≤ c ∧ c ≤ 122) : CI (EX FU (d + 6)) 231 [.ref q, .int (jI c)] (mk t) (fun z t' => t = t' ∧ z = nmF ((q : Int) - 1000006) c ∧ -1 ≤ z ∧ z ≤ 2) := by
  have hb : ∀ k, -1 ≤ nmF k c ∧ nmF k c ≤ 2 := by
    intro k
    unfold nmF
    (repeat' split) <;> omega
  rcases hq with rfl | rfl | rfl
  · exact (c_ix6 t hc).mono (fun z t' h => ⟨h.1, h.2, by rw [h.2]; exact (hb 0).1, by rw [h.2]; exact (hb 0).2⟩)
  · exact (c_ix7 t hc).mono (fun z t' h => ⟨h.1, h.2, by rw [h.2]; exact (hb 1).1, by rw [h.2]; exact (hb 1).2⟩)
  · exact (c_ix8 t hc).mono (fun z t' h => ⟨h.1, h.2, by rw [h.2]; exact (hb 2).1, by rw [h.2]; exact (hb 2).2⟩)
