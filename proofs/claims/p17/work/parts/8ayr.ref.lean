/-! ===== the reference's text, exact ===== -/
def c0T (t : TS) : PCu := stC (tA t 75) (tI t 68 9) (0, 3, 0, 0)
def c1T (t : TS) : PCu := stC (tA t 75) (tI t 68 9) (c0T t)
def sm69 (t u : TS) : Prop := ∀ i, tA u 69 i = tA t 69 i
def ADp (t u : TS) (q : Int) (n : Nat) (a : Int) (f : Nat → Int) (z : Int) : Prop := tA t 69 4 < 14 ∧ z = tA t 69 4 ∧ tA u 69 4 = tA t 69 4 + 1 ∧ tA u 69 (89 + 2 * (tA t 69 4).toNat) = 1000 * q + n ∧ tA u 69 (90 + 2 * (tA t 69 4).toNat) = a ∧ (∀ j, j < n → tA u 69 (117 + 96 * (tA t 69 4).toNat + j) = f j) ∧ ∀ i, ¬ i = 4 → ¬ i = 89 + 2 * (tA t 69 4).toNat → ¬ i = 90 + 2 * (tA t 69 4).toNat → (i < 117 + 96 * (tA t 69 4).toNat ∨ 213 + 96 * (tA t 69 4).toNat ≤ i) → tA u 69 i = tA t 69 i
def XTp (t : TS) (z : Int) (u : TS) : Prop := ∃ q, KYp (tA t 75) (c0T t) q ∧ ((q = -1 ∧ z = -100 - (c0T t).1 ∧ sm69 t u) ∨ (0 ≤ q ∧ ∃ T0 : Nat → Int, T0 0 = 0 ∧ ((∃ f, Rft (tA t 75) (tI t 68 9) q (c1T t, [], [], 0, 1, 0, 0, T0) f ∧ 0 ≤ f ∧ z = -100 - f ∧ sm69 t u) ∨ (∃ k n a f, syr (tA t 75) (tI t 68 9) q k (c1T t, [], [], 0, 1, 0, 0, T0) = some (-1, ls1 f n, a) ∧ ((tA t 69 4 = 14 ∧ z = -1000000003 ∧ sm69 t u) ∨ ADp t u q n a f z)))))
theorem go_0 {u : TS} (h10 : tI u 68 10 = 0) (h14 : tI u 68 14 = -1) : GO u (0, 3, 0, 0) := ⟨h10, fun h => by simp at h, fun _ => by show tI u 68 14 < 0; omega, by decide, by decide⟩
theorem wc_0 {t : TS} (h : 0 ≤ tI t 68 9) : WC (tI t 68 9) (c0T t) := (WC.st (c := (0, 3, 0, 0)) (by decide) h).1
theorem lk_0 (t : TS) : (c0T t).2.2.2 = 0 := by
  unfold c0T stC
  simp
theorem KC.fr {S : List (Nat × Nat)} {t u : TS} (h : KC t) (f : Fr S t u) (h1 : (76, 100) ∉ S) : KC u := by
  have e := f.2.1 76 h1
  exact ⟨fun i hi => by rw [e]; exact h.1 i hi, fun i hi => by rw [e]; exact h.2.1 i hi, fun i hi => by rw [e]; exact h.2.2 i hi⟩
theorem xt_a {t u : TS} {z : Int} (ky : KYp (tA t 75) (c0T t) (-1)) (hz : z = -100 - (c0T t).1) (s : sm69 t u) : XTp t z u := ⟨-1, ky, Or.inl ⟨rfl, hz, s⟩⟩
theorem xt_b {t d e u : TS} {q z y : Int} (g1 : tA d 75 = tA t 75) (g2 : tI d 68 9 = tI t 68 9) (hq : tI d 68 15 = q) (ky : KYp (tA t 75) (c0T t) q) (h0 : 0 ≤ q) (h : TFp d (c1T t) y e) (hy : y = 0) (h11 : 0 ≤ tI e 68 11) (hz : z = -100 - tI e 68 11) (s : sm69 t u) : XTp t z u := by
  obtain ⟨T0, hT0, h⟩ := h
  rw [g1, g2, hq] at h
  rcases h with h | h
  · exact absurd h.1 (by omega)
  · exact ⟨q, ky, Or.inr ⟨h0, T0, hT0, Or.inl ⟨_, h.2, h11, hz, s⟩⟩⟩
theorem xt_c {t d e u : TS} {q z y : Int} (g1 : tA d 75 = tA t 75) (g2 : tI d 68 9 = tI t 68 9) (hq : tI d 68 15 = q) (ky : KYp (tA t 75) (c0T t) q) (h0 : 0 ≤ q) (h : TFp d (c1T t) y e) (hy : ¬ y = 0) (hr : (tA t 69 4 = 14 ∧ z = -1000000003 ∧ sm69 t u) ∨ ADp t u q (tI e 68 19).toNat (tI e 68 20) (tA e 78) z) : XTp t z u := by
  obtain ⟨T0, hT0, h⟩ := h
  rw [g1, g2, hq] at h
  rcases h with h | h
  · obtain ⟨k, hk⟩ := h.2
    exact ⟨q, ky, Or.inr ⟨h0, T0, hT0, Or.inr ⟨k, _, _, _, hk, hr⟩⟩⟩
  · exact absurd h.1 hy
theorem tk_e {t c d : TS} {z : Int} (h : TKp c (c0T t) z d) (g1 : tA c 75 = tA t 75) (g2 : tI c 68 9 = tI t 68 9) (hz : ¬ z = 0) : CRx d (c1T t) ∧ KYp (tA t 75) (c0T t) (tI d 68 15) ∧ 0 ≤ tI d 68 15 := by
  unfold TKp at h
  rw [g1, g2] at h
  rcases h with h | h
  · exact ⟨h.2.2.2, h.2.1, h.2.2.1⟩
  · exact absurd h.1 hz
theorem tk_f {t c d : TS} {z : Int} (h : TKp c (c0T t) z d) (g1 : tA c 75 = tA t 75) (hz : z = 0) : KYp (tA t 75) (c0T t) (-1) ∧ d = c := by
  unfold TKp at h
  rw [g1] at h
  rcases h with h | h
  · exact absurd h.1 (by omega)
  · exact ⟨h.2.1, h.2.2⟩
