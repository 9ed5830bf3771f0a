/-! ===== the reference's reader as a function ===== -/
def ls1 (f : Nat → Int) : Nat → List Int
  | 0 => []
  | h + 1 => f h :: ls1 f h
theorem ls1_congr {f f' : Nat → Int} : ∀ {n : Nat}, (∀ j, j < n → f j = f' j) → ls1 f n = ls1 f' n
  | 0, _ => rfl
  | n + 1, h => by
    unfold ls1
    rw [ls1_congr (fun j hj => h j (by omega)), h n (by omega)]
def stR (t : TS) : List Int := ls1 (tA t 79) (tI t 68 22).toNat
def coR (t : TS) : List Int := ls1 (tA t 78) (tI t 68 19).toNat
def SKp (g : Nat → Int) (n a b : Int) : Prop := ∀ i : Int, a ≤ i → i < b → i < n ∧ g i.toNat = 32
def RUp (g : Nat → Int) (n s a b : Int) : Prop := ∀ i : Int, a ≤ i → i < b → i < n ∧ soF g n i = s
theorem SKp.sn {g : Nat → Int} {n a b c : Int} (h : SKp g n a b) (h1 : b < n) (h2 : g b.toNat = 32) (hc : c = b + 1) : SKp g n a c := by
  intro i i1 i2
  by_cases e : i = b
  · subst e; exact ⟨h1, h2⟩
  · exact h i i1 (by omega)
theorem RUp.sn {g : Nat → Int} {n s a b c : Int} (h : RUp g n s a b) (h1 : b < n) (h2 : soF g n b = s) (hc : c = b + 1) : RUp g n s a c := by
  intro i i1 i2
  by_cases e : i = b
  · subst e; exact ⟨h1, h2⟩
  · exact h i i1 (by omega)
theorem skF_e {g : Nat → Int} {n b : Int} : ∀ (k : Nat) (a : Int), a ≤ b → b - a ≤ (k : Int) → SKp g n a b → ¬ (b < n ∧ g b.toNat = 32) → skF g n k a = b
  | 0, a, h1, h2, _, _ => by
    show a = b
    have : ((0 : Nat) : Int) = 0 := rfl
    omega
  | k + 1, a, h1, h2, h3, h4 => by
    by_cases e : a = b
    · subst e
      show (if _ then _ else _) = _
      rw [if_neg h4]
    · show (if _ then _ else _) = _
      rw [if_pos (h3 a (by omega) (by omega))]
      exact skF_e k (a + 1) (by omega) (by omega) (fun i i1 i2 => h3 i (by omega) i2) h4
theorem ruF_e {g : Nat → Int} {n s b : Int} : ∀ (k : Nat) (a : Int), a ≤ b → b - a ≤ (k : Int) → RUp g n s a b → ¬ (b < n ∧ soF g n b = s) → ruF g n s k a = b
  | 0, a, h1, h2, _, _ => by
    show a = b
    have : ((0 : Nat) : Int) = 0 := rfl
    omega
  | k + 1, a, h1, h2, h3, h4 => by
    by_cases e : a = b
    · subst e
      show (if _ then _ else _) = _
      rw [if_neg h4]
    · show (if _ then _ else _) = _
      rw [if_pos (h3 a (by omega) (by omega))]
      exact ruF_e k (a + 1) (by omega) (by omega) (fun i i1 i2 => h3 i (by omega) i2) h4
theorem sp_o {g : Nat → Int} {n a b : Int} (h : (soF g n a = 0 ∧ b = a) ∨ (soF g n a = 3 ∧ b = a + 1)) : b = spF g n a := by
  unfold spF
  rcases h with h | h
  · rw [if_pos h.1]; exact h.2
  · rw [if_neg (by omega), if_pos h.1]; exact h.2
theorem sp_w {g : Nat → Int} {n a b : Int} (h : soF g n a = 1 ∨ soF g n a = 2) (r : RUp g n (soF g n a) (a + 1) b) (h1 : a + 1 ≤ b) (h2 : b ≤ a + 98) (h3 : ¬ (b < n ∧ soF g n b = soF g n a)) : b = spF g n a := by
  unfold spF
  rw [if_neg (by omega), if_neg (by omega)]
  exact (ruF_e 97 (a + 1) h1 (by have : ((97 : Nat) : Int) = 97 := rfl; omega) r h3).symm
theorem sp_w2 {g : Nat → Int} {n a b s : Int} (hs : soF g n a = s) (h : s = 1 ∨ s = 2) (r : RUp g n s a b) (h1 : a + 1 ≤ b) (h2 : b ≤ a + 98) (h3 : ¬ (b < n ∧ soF g n b = s)) : b = spF g n a := by
  subst hs
  exact sp_w h (fun i i1 i2 => r i (by omega) i2) h1 h2 h3
theorem so1_iff {g : Nat → Int} {n k : Int} : (k < n ∧ 97 ≤ g k.toNat ∧ g k.toNat ≤ 122) ↔ soF g n k = 1 := by
  unfold soF
  (repeat' split) <;> omega
theorem so2_iff {g : Nat → Int} {n k : Int} : (k < n ∧ 48 ≤ g k.toNat ∧ g k.toNat ≤ 57) ↔ soF g n k = 2 := by
  unfold soF
  (repeat' split) <;> omega
def NFp (g : Nat → Int) (a n v : Int) : Prop := n - a ≤ 4 → v = numF g a.toNat (n - a).toNat
theorem nf_0 {g : Nat → Int} {a n v : Int} (h : n = a) (hv : v = 0) : NFp g a n v := by
  intro _
  rw [hv, show (n - a).toNat = 0 by omega]
  rfl
theorem nf_s {g : Nat → Int} {a n n' v v' : Int} (h : NFp g a n v) (h0 : 0 ≤ a ∧ a ≤ n) (h4 : n - a < 4) (e : v' = 10 * v + g n.toNat - 48) (hn : n' = n + 1) : NFp g a n' v' := by
  intro _
  rw [hn, show (n + 1 - a).toNat = (n - a).toNat + 1 by omega]
  show v' = 10 * numF g a.toNat (n - a).toNat + g (a.toNat + (n - a).toNat) - 48
  rw [← h (by omega), show a.toNat + (n - a).toNat = n.toNat by omega]
  exact e
theorem nf_k {g : Nat → Int} {a n n' v' : Int} (h4 : 4 ≤ n - a) (hn : n' = n + 1) : NFp g a n' v' := by
  intro q
  omega
def GO (t : TS) (c : PCu) : Prop := tI t 68 10 = c.2.2.1 ∧ (c.2.1 = 1 ∨ c.2.1 = 2 → tI t 68 14 = c.2.2.1) ∧ (c.2.1 = 3 → tI t 68 14 < c.2.2.1) ∧ 1 ≤ c.2.1 ∧ c.2.1 ≤ 3
def CRx (t : TS) (c : PCu) : Prop := (tI t 68 11 = c.1 ∧ tI t 68 10 = c.2.2.1 ∧ tI t 68 12 = tkF c) ∧ ((tkF c = 1 ∨ tkF c = 3) → tI t 68 13 = tA t 75 c.1.toNat) ∧ (tkF c = 2 → tI t 68 13 = numF (tA t 75) c.1.toNat (c.2.2.1 - c.1).toNat) ∧ (c.2.1 = 1 ∨ c.2.1 = 2 → tI t 68 14 = c.2.2.1) ∧ (c.2.1 = 3 → tI t 68 14 < c.2.2.1)
theorem CRx.go {t : TS} {c : PCu} {n : Int} (h : CRx t c) (w : WC n c) (h0 : ¬ c.2.1 = 0) : GO t c := ⟨h.1.2.1, h.2.2.2.1, h.2.2.2.2, by have := w.2.2.2.1; omega, w.2.2.2.2.1⟩
theorem CRx.mv {t u : TS} {c : PCu} (h : CRx t c) (h10 : tI u 68 10 = tI t 68 10) (h11 : tI u 68 11 = tI t 68 11) (h12 : tI u 68 12 = tI t 68 12) (h13 : tI u 68 13 = tI t 68 13) (h14 : tI u 68 14 = tI t 68 14) (h75 : tA u 75 = tA t 75) : CRx u c := by
  unfold CRx
  rw [h10, h11, h12, h13, h14, h75]
  exact h
theorem CRx.fr {t u : TS} {c : PCu} {S : List (Nat × Nat)} (h : CRx t c) (f : Fr S t u) (h10 : (68, 10) ∉ S) (h11 : (68, 11) ∉ S) (h12 : (68, 12) ∉ S) (h13 : (68, 13) ∉ S) (h14 : (68, 14) ∉ S) (h75 : (75, 100) ∉ S) : CRx u c := h.mv (f.1 _ _ h10) (f.1 _ _ h11) (f.1 _ _ h12) (f.1 _ _ h13) (f.1 _ _ h14) (funext (f.2.1 75 h75))
theorem CRx.uI {t u : TS} {c : PCu} {f : Nat} {z : Int} (h : CRx t c) (e : u = uI t 68 f z) (hf : f < 10 ∨ 14 < f) : CRx u c := h.mv (by rw [e, tI_uI, if_neg (by omega)]) (by rw [e, tI_uI, if_neg (by omega)]) (by rw [e, tI_uI, if_neg (by omega)]) (by rw [e, tI_uI, if_neg (by omega)]) (by rw [e, tI_uI, if_neg (by omega)]) (by rw [e, tA_uI])
theorem CRx.uA {t u : TS} {c : PCu} {b i : Nat} {z : Int} (h : CRx t c) (e : u = uA t b i z) (hf : ¬ 75 = b) : CRx u c := h.mv (by rw [e]; rfl) (by rw [e]; rfl) (by rw [e]; rfl) (by rw [e]; rfl) (by rw [e]; rfl) (by funext j; rw [e, tA_uA, if_neg (fun q => hf q.1)])
theorem CRx.si {t : TS} {c : PCu} {x : Int} (h : CRx t c) (w : WC (tI t 68 9) c) (hx : ¬ x = 0) : siF (tA t 75) (tI t 68 9) c = x ↔ (tI t 68 12 = 3 ∧ tI t 68 13 = x) := by
  have e := h.1.2.2
  have w1 := w.2.1
  have w2 := w.2.2.1
  have w7 := w.2.2.2.2.2.2
  have e3 : tkF c = 3 ↔ c.2.1 = 3 := by
    unfold tkF
    (repeat' split) <;> omega
  unfold siF
  by_cases q : c.2.1 = 3
  · have q2 := w7 (by omega)
    rw [if_pos ⟨q, by omega⟩, ← h.2.1 (Or.inr (e3.mpr q))]
    have := e3.mpr q
    omega
  · rw [if_neg (fun k => q k.1)]
    constructor
    · intro k; exact absurd k.symm hx
    · intro k; exact absurd (e3.mp (by omega)) q
theorem cr_mk {t u : TS} {c : PCu} (g : GO t c) (h75 : tA u 75 = tA t 75) (hA : tI t 68 10 ≤ skF (tA t 75) (tI t 68 9) 97 (tI t 68 10)) (e11 : tI u 68 11 = skF (tA t 75) (tI t 68 9) 97 (tI t 68 10)) (h : (soF (tA t 75) (tI t 68 9) (tI u 68 11) = 0 ∧ tI u 68 10 = tI u 68 11 ∧ tI u 68 12 = 0) ∨ (soF (tA t 75) (tI t 68 9) (tI u 68 11) = 1 ∧ tI u 68 10 = spF (tA t 75) (tI t 68 9) (tI u 68 11) ∧ tI u 68 14 = tI u 68 10 ∧ tI u 68 13 = tA t 75 (tI u 68 11).toNat ∧ ((tI u 68 11 = tI t 68 14 ∧ tI u 68 12 = 4) ∨ (¬ tI u 68 11 = tI t 68 14 ∧ tI u 68 12 = 1))) ∨ (soF (tA t 75) (tI t 68 9) (tI u 68 11) = 2 ∧ tI u 68 10 = spF (tA t 75) (tI t 68 9) (tI u 68 11) ∧ tI u 68 14 = tI u 68 10 ∧ NFp (tA t 75) (tI u 68 11) (tI u 68 10) (tI u 68 13) ∧ (((tI u 68 11 = tI t 68 14 ∨ 4 < tI u 68 10 - tI u 68 11) ∧ tI u 68 12 = 4) ∨ (¬ tI u 68 11 = tI t 68 14 ∧ tI u 68 10 - tI u 68 11 ≤ 4 ∧ tI u 68 12 = 2))) ∨ (soF (tA t 75) (tI t 68 9) (tI u 68 11) = 3 ∧ tI u 68 10 = tI u 68 11 + 1 ∧ tI u 68 12 = 3 ∧ tI u 68 13 = tA t 75 (tI u 68 11).toNat ∧ tI u 68 14 = tI t 68 14)) : CRx u (stC (tA t 75) (tI t 68 9) c) := by
  obtain ⟨g1, g2, g3, g4, g5⟩ := g
  have hl : (tI u 68 11 = tI t 68 14) ↔ ((c.2.1 = 1 ∨ c.2.1 = 2) ∧ tI u 68 11 = c.2.2.1) := by
    by_cases q : c.2.1 = 1 ∨ c.2.1 = 2
    · have := g2 q
      constructor
      · intro k; exact ⟨q, by omega⟩
      · intro k; omega
    · have := g3 (by omega)
      constructor
      · intro k; omega
      · intro k; exact absurd k.1 q
  have ec : stC (tA t 75) (tI t 68 9) c = (tI u 68 11, soF (tA t 75) (tI t 68 9) (tI u 68 11), spF (tA t 75) (tI t 68 9) (tI u 68 11), if tI u 68 11 = tI t 68 14 then 1 else 0) := by
    unfold stC
    rw [← g1, ← e11]
    congr 3
    by_cases q : tI u 68 11 = tI t 68 14
    · rw [if_pos q, if_pos]
      have := hl.mp q
      exact ⟨this.1, by omega⟩
    · rw [if_neg q, if_neg]
      intro k
      exact q (hl.mpr ⟨k.1, by omega⟩)
  rw [ec]
  unfold CRx tkF
  simp only []
  rw [h75]
  rcases h with h | h | h | h
  · obtain ⟨h1, h2, h3⟩ := h
    have e0 := sp_o (g := tA t 75) (n := tI t 68 9) (a := tI u 68 11) (b := tI u 68 10) (Or.inl ⟨h1, h2⟩)
    rw [h1, if_neg (by decide), if_neg (by decide), ← e0]
    exact ⟨⟨trivial, rfl, h3⟩, fun k => by omega, fun k => by omega, fun k => by omega, fun k => by omega⟩
  · obtain ⟨h1, h2, h3, h4, h5⟩ := h
    rw [h1, if_pos rfl, ← h2]
    rcases h5 with h5 | h5
    · rw [if_pos h5.1, if_pos rfl]
      exact ⟨⟨trivial, rfl, h5.2⟩, fun k => by omega, fun k => by omega, fun _ => h3, fun k => by omega⟩
    · rw [if_neg h5.1, if_neg (by decide)]
      exact ⟨⟨trivial, rfl, h5.2⟩, fun k => h4, fun k => by omega, fun _ => h3, fun k => by omega⟩
  · obtain ⟨h1, h2, h3, h4, h5⟩ := h
    rw [h1, if_neg (by decide), if_pos rfl, ← h2]
    rcases h5 with h5 | h5
    · rw [if_pos]
      · exact ⟨⟨trivial, rfl, h5.2⟩, fun k => by omega, fun k => by omega, fun _ => h3, fun k => by omega⟩
      · by_cases q : tI u 68 11 = tI t 68 14
        · rw [if_pos q]; exact Or.inl rfl
        · exact Or.inr (h5.1.resolve_left q)
    · rw [if_neg]
      · exact ⟨⟨trivial, rfl, h5.2.2⟩, fun k => by omega, fun k => h4 h5.2.1, fun _ => h3, fun k => by omega⟩
      · rw [if_neg h5.1]
        omega
  · obtain ⟨h1, h2, h3, h4, h5⟩ := h
    have e0 := sp_o (g := tA t 75) (n := tI t 68 9) (a := tI u 68 11) (b := tI u 68 10) (Or.inr ⟨h1, h2⟩)
    rw [h1, if_neg (by decide), if_neg (by decide), ← e0]
    refine ⟨⟨trivial, rfl, h3⟩, fun k => h4, fun k => by omega, fun k => by omega, fun k => ?_⟩
    by_cases q : c.2.1 = 1 ∨ c.2.1 = 2
    · have := g2 q
      omega
    · have := g3 (by omega)
      omega
def KC (t : TS) : Prop := (∀ i : Nat, i < 4 → tA t 76 i = wdF 3 i) ∧ (∀ i : Nat, i < 3 → tA t 76 (4 + i) = wdF 4 i) ∧ (∀ i : Nat, i < 4 → tA t 76 (7 + i) = wdF 5 i)
theorem CRx.sg {t : TS} {c : PCu} (h : CRx t c) (w : WC (tI t 68 9) c) : (tI t 68 12 = 3 → siF (tA t 75) (tI t 68 9) c = tI t 68 13) ∧ (¬ tI t 68 12 = 3 → siF (tA t 75) (tI t 68 9) c = 0) := by
  have e := h.1.2.2
  have w1 := w.2.1
  have w2 := w.2.2.1
  have w7 := w.2.2.2.2.2.2
  have e3 : tkF c = 3 ↔ c.2.1 = 3 := by
    unfold tkF
    (repeat' split) <;> omega
  constructor
  · intro k
    have q := e3.mp (by omega)
    have q2 := w7 (by omega)
    unfold siF
    rw [if_pos ⟨q, by omega⟩, h.2.1 (Or.inr (by omega))]
  · intro k
    unfold siF
    rw [if_neg (fun q => k (by have := e3.mpr q.1; omega))]
theorem st_push {u v : TS} {a : Int} (h0 : 0 ≤ tI u 68 22) (h : tI v 68 22 = tI u 68 22 + 1) (e : ∀ i, tA v 79 i = if i = (tI u 68 22).toNat then a else tA u 79 i) : stR v = a :: stR u := by
  unfold stR
  rw [show (tI v 68 22).toNat = (tI u 68 22).toNat + 1 by omega]
  show tA v 79 (tI u 68 22).toNat :: ls1 (tA v 79) (tI u 68 22).toNat = _
  rw [e, if_pos rfl]
  congr 1
  exact ls1_congr (fun j hj => by rw [e, if_neg (by omega)])
theorem st_drop {u v : TS} (h0 : 0 < tI u 68 22) (h : tI v 68 22 = tI u 68 22 - 1) (e : ∀ i, tA v 79 i = tA u 79 i) : stR v = (stR u).tail := by
  unfold stR
  rw [show (tI u 68 22).toNat = (tI v 68 22).toNat + 1 by omega]
  show _ = ls1 (tA u 79) (tI v 68 22).toNat
  exact ls1_congr (fun j hj => e j)
theorem st_same {u v : TS} (h : tI v 68 22 = tI u 68 22) (e : ∀ i, tA v 79 i = tA u 79 i) : stR v = stR u := by
  unfold stR
  rw [h]
  exact ls1_congr (fun j _ => e j)
theorem co_push {u v : TS} {a : Int} (h0 : 0 ≤ tI u 68 19) (h : tI v 68 19 = tI u 68 19 + 1) (e : ∀ i, tA v 78 i = if i = (tI u 68 19).toNat then a else tA u 78 i) : coR v = a :: coR u := by
  unfold coR
  rw [show (tI v 68 19).toNat = (tI u 68 19).toNat + 1 by omega]
  show tA v 78 (tI u 68 19).toNat :: ls1 (tA v 78) (tI u 68 19).toNat = _
  rw [e, if_pos rfl]
  congr 1
  exact ls1_congr (fun j hj => by rw [e, if_neg (by omega)])
theorem co_same {u v : TS} (h : tI v 68 19 = tI u 68 19) (e : ∀ i, tA v 78 i = tA u 78 i) : coR v = coR u := by
  unfold coR
  rw [h]
  exact ls1_congr (fun j _ => e j)
def SEp (x : Int) (t u : TS) : Prop := stF x (stR u) (coR u) = stF x (stR t) (coR t)
def SEq (x : Int) (t u : TS) : Prop := (stR u, coR u) = stF x (stR t) (coR t)
theorem stR_top {u : TS} (h0 : 0 < tI u 68 22) : stR u = tA u 79 (tI u 68 22 - 1).toNat :: ls1 (tA u 79) (tI u 68 22 - 1).toNat := by
  unfold stR
  rw [show (tI u 68 22).toNat = (tI u 68 22 - 1).toNat + 1 by omega]
  rfl
theorem se_0 {t u : TS} {x : Int} (h : SEp x t u) (h0 : tI u 68 22 ≤ 0) : SEq x t u := by
  unfold SEq
  have e : stR u = [] := by
    unfold stR
    rw [show (tI u 68 22).toNat = 0 by omega]
    rfl
  rw [← show stF x (stR u) (coR u) = _ from h, e]
  rfl
theorem se_1 {t u : TS} {x : Int} (h : SEp x t u) (h0 : 0 < tI u 68 22) (h1 : tA u 79 (tI u 68 22 - 1).toNat = -11 ∨ rkF (tA u 79 (tI u 68 22 - 1).toNat) < x) : SEq x t u := by
  unfold SEq
  rw [← show stF x (stR u) (coR u) = _ from h, stR_top h0]
  show _ = (if _ then _ else _)
  rw [if_neg (by omega)]
theorem se_n {t u v : TS} {x a : Int} (h : SEp x t u) (h0 : 0 < tI u 68 22) (ha : tA u 79 (tI u 68 22 - 1).toNat = a) (h1 : ¬ a = -11) (h2 : x ≤ rkF a) (e22 : tI v 68 22 = tI u 68 22 - 1) (h19 : 0 ≤ tI u 68 19) (e19 : tI v 68 19 = tI u 68 19 + 1) (e79 : ∀ i, tA v 79 i = tA u 79 i) (e78 : ∀ i, tA v 78 i = if i = (tI u 68 19).toNat then a else tA u 78 i) : SEp x t v := by
  unfold SEp
  rw [← show stF x (stR u) (coR u) = _ from h, st_drop h0 e22 e79, co_push h19 e19 e78, stR_top h0, ha]
  show _ = (if ¬ a = -11 ∧ x ≤ rkF a then stF x (ls1 (tA u 79) (tI u 68 22 - 1).toNat) (a :: coR u) else _)
  rw [if_pos ⟨h1, h2⟩]
  rfl
theorem no_s {f : Nat → Int} {n n' k : Int} (h : n = noS (ls1 f k.toNat)) (h0 : 0 ≤ k) (e : n' = n + (if f k.toNat = -10 then 1 else 0)) : n' = noS (ls1 f (k + 1).toNat) := by
  rw [show (k + 1).toNat = k.toNat + 1 by omega]
  show n' = noS (ls1 f k.toNat) + (if f k.toNat = -10 then 1 else 0)
  rw [← h]
  exact e
def lnW (w : Int) : Int := if w = 1 then 3 else 4
theorem ln_s (w : Int) : (w = 1 ∧ lnW w = 3) ∨ (¬ w = 1 ∧ lnW w = 4) := by
  unfold lnW
  split <;> omega
def NKp (g : Nat → Int) (c : PCu) (w : Int) : Prop := ∀ v : Int, 0 ≤ v → v < w → ¬ kyW g c (3 + v.toNat) (lnW v)
theorem nk_0 {g : Nat → Int} {c : PCu} {w : Int} (h : w = 0) : NKp g c w := fun v h1 h2 => by omega
theorem nk_s {g : Nat → Int} {c : PCu} {w : Int} (h : NKp g c w) (k : ¬ kyW g c (3 + w.toNat) (lnW w)) : NKp g c (w + 1) := by
  intro v h1 h2
  by_cases e : v = w
  · subst e; exact k
  · exact h v h1 (by omega)
def SMp (g : Nat → Int) (s len w same k : Int) : Prop := (same = 1 ∧ len = lnW w ∧ WDp g (3 + w.toNat) s k) ∨ (same = 0 ∧ ¬ (len = lnW w ∧ WDp g (3 + w.toNat) s (lnW w)))
theorem sm_0 {g : Nat → Int} {s len w same k : Int} (h : (same = 1 ∧ len = lnW w) ∨ (same = 0 ∧ ¬ len = lnW w)) (hk : k = 0) : SMp g s len w same k := by
  rcases h with h | h
  · exact Or.inl ⟨h.1, h.2, fun i h1 h2 => by omega⟩
  · exact Or.inr ⟨h.1, fun e => h.2 e.1⟩
theorem sm_s {g : Nat → Int} {s len w same same' k b x : Int} (h : SMp g s len w same k) (hs : same = 1) (hk : 0 ≤ k ∧ k < lnW w) (eb : b = g (s + k).toNat) (ec : x = wdF (3 + w.toNat) k) (hv : (same' = 1 ∧ b = x) ∨ (same' = 0 ∧ ¬ b = x)) : SMp g s len w same' (k + 1) := by
  rcases h with h | h
  · rcases hv with v | v
    · exact Or.inl ⟨v.1, h.2.1, h.2.2.sn (by omega)⟩
    · exact Or.inr ⟨v.1, fun e => v.2 (by rw [eb, ec]; exact e.2 k hk.1 hk.2)⟩
  · exact absurd h.1 (by omega)
theorem kc_w {t : TS} {z w k x : Int} (h : KC t) (hk : 0 ≤ k ∧ k < lnW w) (hx : (w = 0 ∧ x = k) ∨ (w = 1 ∧ x = 4 + k) ∨ (w = 2 ∧ x = 7 + k)) (e : z = tA t 76 x.toNat) : z = wdF (3 + w.toNat) k := by
  have l := ln_s w
  obtain ⟨h1, h2, h3⟩ := h
  rcases hx with q | q | q
  · obtain ⟨rfl, rfl⟩ := q
    rw [e, h1 x.toNat (by omega), show ((x.toNat : Nat) : Int) = x by omega]
    rfl
  · obtain ⟨rfl, rfl⟩ := q
    rw [e, show (4 + k).toNat = 4 + k.toNat by omega, h2 k.toNat (by omega), show ((k.toNat : Nat) : Int) = k by omega]
    rfl
  · obtain ⟨rfl, rfl⟩ := q
    rw [e, show (7 + k).toNat = 7 + k.toNat by omega, h3 k.toNat (by omega), show ((k.toNat : Nat) : Int) = k by omega]
    rfl
theorem ky_t {g : Nat → Int} {c : PCu} (h : ¬ c.2.1 = 1) : KYp g c (-1) := Or.inr (Or.inr (Or.inr ⟨rfl, fun k => h k.1, fun k => h k.1, fun k => h k.1⟩))
theorem ky_n {g : Nat → Int} {c : PCu} {w : Int} (h : NKp g c w) (hw : 3 ≤ w) : KYp g c (-1) := Or.inr (Or.inr (Or.inr ⟨rfl, h 0 (by omega) (by omega), h 1 (by omega) (by omega), h 2 (by omega) (by omega)⟩))
theorem ky_y {g : Nat → Int} {c : PCu} {w : Int} (h : NKp g c w) (hw : 0 ≤ w ∧ w ≤ 2) (k : kyW g c (3 + w.toNat) (lnW w)) : KYp g c w := by
  have q : w = 0 ∨ w = 1 ∨ w = 2 := by omega
  rcases q with rfl | rfl | rfl
  · exact Or.inl ⟨rfl, k⟩
  · exact Or.inr (Or.inl ⟨rfl, h 0 (by omega) (by omega), k⟩)
  · exact Or.inr (Or.inr (Or.inl ⟨rfl, h 0 (by omega) (by omega), h 1 (by omega) (by omega), k⟩))
theorem sm_y {t : TS} {c : PCu} {w same k : Int} (h : SMp (tA t 75) (tI t 68 11) (tI t 68 10 - tI t 68 11) w same k) (cr : CRx t c) (h1 : tI t 68 12 = 1) (hl : c.2.2.2 = 0) (hs : ¬ same = 0) (hk : k = lnW w) : kyW (tA t 75) c (3 + w.toNat) (lnW w) := by
  rcases h with h | h
  · have e := cr.1.2.2
    have e1 := cr.1.1
    have e2 := cr.1.2.1
    refine ⟨?_, by omega, by rw [← e1, ← hk]; exact h.2.2⟩
    rw [h1] at e
    unfold tkF at e
    (repeat' split at e) <;> omega
  · exact absurd h.1 hs
theorem sm_n {t : TS} {c : PCu} {w same k : Int} (h : SMp (tA t 75) (tI t 68 11) (tI t 68 10 - tI t 68 11) w same k) (cr : CRx t c) (hs : same = 0) : ¬ kyW (tA t 75) c (3 + w.toNat) (lnW w) := by
  have e1 := cr.1.1
  have e2 := cr.1.2.1
  rcases h with h | h
  · exact absurd h.1 (by omega)
  · intro k
    refine h.2 ⟨?_, ?_⟩
    · rw [e1, e2]; exact k.2.1
    · rw [e1]; exact k.2.2
theorem tk_ne {n : Int} {c : PCu} (w : WC n c) (h : ¬ tkF c = 0) : ¬ c.2.1 = 0 := fun e => h ((tk_0 w).mpr e)
theorem tk_n1 {t : TS} {c : PCu} (cr : CRx t c) (hl : c.2.2.2 = 0) (h : ¬ tI t 68 12 = 1) : ¬ c.2.1 = 1 := by
  intro e
  apply h
  rw [cr.1.2.2]
  unfold tkF
  rw [if_pos e, if_neg (by omega)]
def TKp (t : TS) (c : PCu) (z : Int) (u : TS) : Prop := (z = 1 ∧ KYp (tA t 75) c (tI u 68 15) ∧ 0 ≤ tI u 68 15 ∧ CRx u (stC (tA t 75) (tI t 68 9) c)) ∨ (z = 0 ∧ KYp (tA t 75) c (-1) ∧ u = t)
def PTc (t : TS) (c : PCu) : Prop := tkF c = 2 ∨ (tkF c = 1 ∧ c.2.2.1 - c.1 = 1 ∧ 0 ≤ nmF (tI t 68 15) (tA t 75 c.1.toNat))
theorem pt_y {t : TS} {c : PCu} (h : CRx t c) (hv : tI t 68 12 = 2 ∨ (tI t 68 12 = 1 ∧ tI t 68 10 - tI t 68 11 = 1 ∧ 0 ≤ nmF (tI t 68 15) (tI t 68 13))) : PTc t c := by
  obtain ⟨⟨e1, e2, e3⟩, e4, -⟩ := h
  rcases hv with v | v
  · exact Or.inl (by omega)
  · exact Or.inr ⟨by omega, by omega, by rw [← e4 (Or.inl (by omega))]; exact v.2.2⟩
theorem pt_n {t : TS} {c : PCu} (h : CRx t c) (hv : ¬ (tI t 68 12 = 2 ∨ (tI t 68 12 = 1 ∧ tI t 68 10 - tI t 68 11 = 1 ∧ 0 ≤ nmF (tI t 68 15) (tI t 68 13)))) : ¬ PTc t c := by
  obtain ⟨⟨e1, e2, e3⟩, e4, -⟩ := h
  intro k
  apply hv
  rcases k with v | v
  · exact Or.inl (by omega)
  · exact Or.inr ⟨by omega, by omega, by rw [e4 (Or.inl v.1)]; exact v.2.2⟩
theorem op_v {t : TS} {c : PCu} {v : Int} (h : CRx t c) (hv : (tI t 68 12 = 2 ∧ v = tI t 68 13) ∨ (tI t 68 12 = 1 ∧ v = 10000 + nmF (tI t 68 15) (tI t 68 13))) : v = opV (tA t 75) (tI t 68 15) c := by
  obtain ⟨⟨e1, e2, e3⟩, e4, e5, -⟩ := h
  unfold opV
  rcases hv with k | k
  · rw [if_pos (by omega), k.2]; exact e5 (by omega)
  · rw [if_neg (by omega), k.2, e4 (Or.inl (by omega))]
def TPp (t : TS) (c : PCu) (z : Int) (u : TS) : Prop := (z = 1 ∧ PTc t c ∧ CRx u (stC (tA t 75) (tI t 68 9) c) ∧ (stR u, coR u) = stF 6 (stR t) (opV (tA t 75) (tI t 68 15) c :: coR t) ∧ tI u 68 20 = tI t 68 20 + 1) ∨ (z = 0 ∧ ¬ PTc t c ∧ u = t)
def GR (t u : TS) : Prop := tA u 75 = tA t 75 ∧ tI u 68 9 = tI t 68 9 ∧ tI u 68 15 = tI t 68 15
theorem GR.fr {S : List (Nat × Nat)} {t u : TS} (f : Fr S t u) (h1 : (75, 100) ∉ S) (h2 : (68, 9) ∉ S) (h3 : (68, 15) ∉ S) : GR t u := ⟨funext (f.2.1 75 h1), f.1 _ _ h2, f.1 _ _ h3⟩
theorem si_u {t u : TS} {c : PCu} {x : Int} (gr : GR t u) (cr : CRx u c) (w : WC (tI t 68 9) c) (hx : ¬ x = 0) : siF (tA t 75) (tI t 68 9) c = x ↔ (tI u 68 12 = 3 ∧ tI u 68 13 = x) := by
  have h := cr.si (x := x) (by rw [gr.2.1]; exact w) hx
  rw [gr.1, gr.2.1] at h
  exact h
theorem pt_u {t u : TS} {c : PCu} (gr : GR t u) (h : PTc u c) : tkF c = 2 ∨ (tkF c = 1 ∧ c.2.2.1 - c.1 = 1 ∧ 0 ≤ nmF (tI t 68 15) (tA t 75 c.1.toNat)) := by
  unfold PTc at h
  rw [gr.1, gr.2.2] at h
  exact h
theorem pt_v {t u : TS} {c : PCu} (gr : GR t u) (h : ¬ PTc u c) : ¬ (tkF c = 2 ∨ (tkF c = 1 ∧ c.2.2.1 - c.1 = 1 ∧ 0 ≤ nmF (tI t 68 15) (tA t 75 c.1.toNat))) := by
  unfold PTc at h
  rw [gr.1, gr.2.2] at h
  exact h
theorem sy_not {g : Nat → Int} {n q : Int} {c : PCu} {S O : List Int} {a w p k : Int} {T : Nat → Int} (hw : ¬ w = 0) (h : siF g n c = 33 ∧ k < 8) : sy1 g n q c S O a w p k T = .inl (stC g n c, -10 :: S, O, a, 1, p, noS (-10 :: S), T) := by
  unfold sy1
  rw [if_neg (fun e => hw e.1), if_pos hw, if_pos h]
theorem sy_par {g : Nat → Int} {n q : Int} {c : PCu} {S O : List Int} {a w p k : Int} {T : Nat → Int} (hw : ¬ w = 0) (h1 : ¬ (siF g n c = 33 ∧ k < 8)) (h : siF g n c = 40 ∧ p < 8) : sy1 g n q c S O a w p k T = .inl (stC g n c, -11 :: S, O, a, 1, p + 1, noS (-11 :: S), upF T (p + 1).toNat 0) := by
  unfold sy1
  rw [if_neg (fun e => hw e.1), if_pos hw, if_neg h1, if_pos h]
theorem sy_opd {g : Nat → Int} {n q : Int} {c : PCu} {S O : List Int} {a w p k : Int} {T : Nat → Int} (hw : ¬ w = 0) (h1 : ¬ (siF g n c = 33 ∧ k < 8)) (h2 : ¬ (siF g n c = 40 ∧ p < 8)) (h : tkF c = 2 ∨ (tkF c = 1 ∧ c.2.2.1 - c.1 = 1 ∧ 0 ≤ nmF q (g c.1.toNat))) : sy1 g n q c S O a w p k T = .inl (stC g n c, (stF 6 S (opV g q c :: O)).1, (stF 6 S (opV g q c :: O)).2, a + 1, 0, p, noS (stF 6 S (opV g q c :: O)).1, T) := by
  unfold sy1
  rw [if_neg (fun e => hw e.1), if_pos hw, if_neg h1, if_neg h2, if_pos h]
theorem sy_bad {g : Nat → Int} {n q : Int} {c : PCu} {S O : List Int} {a w p k : Int} {T : Nat → Int} (hw : ¬ w = 0) (h1 : ¬ (siF g n c = 33 ∧ k < 8)) (h2 : ¬ (siF g n c = 40 ∧ p < 8)) (h : ¬ (tkF c = 2 ∨ (tkF c = 1 ∧ c.2.2.1 - c.1 = 1 ∧ 0 ≤ nmF q (g c.1.toNat)))) : sy1 g n q c S O a w p k T = .inr (c.1, [], 0) := by
  unfold sy1
  rw [if_neg (fun e => hw e.1), if_pos hw, if_neg h1, if_neg h2, if_neg h]
theorem sy_cl {g : Nat → Int} {n q : Int} {c : PCu} {S O : List Int} {a w p k : Int} {T : Nat → Int} (hw : w = 0) (ht : ¬ tkF c = 0) (h : siF g n c = 41 ∧ 0 < p) : sy1 g n q c S O a w p k T = .inl (stC g n c, (stF 6 (stF 0 S O).1.tail (stF 0 S O).2).1, (stF 6 (stF 0 S O).1.tail (stF 0 S O).2).2, a, 0, p - 1, noS (stF 6 (stF 0 S O).1.tail (stF 0 S O).2).1, T) := by
  unfold sy1
  rw [if_neg (fun e => ht e.2), if_neg (fun e => e hw), if_pos h]
theorem sy_sb {g : Nat → Int} {n q : Int} {c : PCu} {S O : List Int} {a w p k : Int} {T : Nat → Int} (hw : w = 0) (ht : ¬ tkF c = 0) (h1 : ¬ (siF g n c = 41 ∧ 0 < p)) (h : sgF (siF g n c) = 0 ∨ (rkF (sgF (siF g n c)) = 3 ∧ ¬ T p.toNat = 0)) : sy1 g n q c S O a w p k T = .inr (c.1, [], 0) := by
  unfold sy1
  rw [if_neg (fun e => ht e.2), if_neg (fun e => e hw), if_neg h1, if_pos h]
theorem sy_sg {g : Nat → Int} {n q : Int} {c : PCu} {S O : List Int} {a w p k sg : Int} {T : Nat → Int} (hw : w = 0) (ht : ¬ tkF c = 0) (h1 : ¬ (siF g n c = 41 ∧ 0 < p)) (hs : sg = sgF (siF g n c)) (h : ¬ (sg = 0 ∨ (rkF sg = 3 ∧ ¬ T p.toNat = 0))) : sy1 g n q c S O a w p k T = .inl (stC g n c, sg :: (stF (rkF sg) S O).1, (stF (rkF sg) S O).2, a, 1, p, k, upF T p.toNat (if rkF sg = 3 ∨ (3 < rkF sg ∧ ¬ T p.toNat = 0) then 1 else 0)) := by
  unfold sy1
  rw [if_neg (fun e => ht e.2), if_neg (fun e => e hw), if_neg h1, ← hs, if_neg h]
theorem sy_e1 {g : Nat → Int} {n q : Int} {c : PCu} {S O : List Int} {a w p k : Int} {T : Nat → Int} (hw : w = 0) (ht : tkF c = 0) (hp : p = 0) : sy1 g n q c S O a w p k T = .inr (-1, (stF 0 S O).2, a) := by
  unfold sy1
  rw [if_pos ⟨hw, ht⟩, if_pos hp]
theorem sy_e0 {g : Nat → Int} {n q : Int} {c : PCu} {S O : List Int} {a w p k : Int} {T : Nat → Int} (hw : w = 0) (ht : tkF c = 0) (hp : ¬ p = 0) : sy1 g n q c S O a w p k T = .inr (c.1, [], 0) := by
  unfold sy1
  rw [if_pos ⟨hw, ht⟩, if_neg hp]
def RcT (t : TS) (c0 : PCu) (T0 : Nat → Int) (u : TS) (c : PCu) (p k w : Int) : Prop := Rch (tA t 75) (tI t 68 9) (tI t 68 15) (c0, [], [], 0, 1, 0, 0, T0) (c, stR u, coR u, tI u 68 20, w, p, k, tA u 80)
def TEp (t : TS) (c0 : PCu) (u : TS) (p k w : Int) : Prop := ∃ T0 c, T0 0 = 0 ∧ CRx u c ∧ WC (tI t 68 9) c ∧ RcT t c0 T0 u c p k w
def TFp (t : TS) (c0 : PCu) (z : Int) (u : TS) : Prop := ∃ T0 : Nat → Int, T0 0 = 0 ∧ ((z = 1 ∧ ∃ k, syr (tA t 75) (tI t 68 9) (tI t 68 15) k (c0, [], [], 0, 1, 0, 0, T0) = some (-1, coR u, tI u 68 20)) ∨ (z = 0 ∧ Rft (tA t 75) (tI t 68 9) (tI t 68 15) (c0, [], [], 0, 1, 0, 0, T0) (tI u 68 11)))
theorem te_0 {t u : TS} {c0 : PCu} {p k w : Int} (cr : CRx u c0) (wc : WC (tI t 68 9) c0) (h0 : tA u 80 0 = 0) (hs : stR u = []) (ho : coR u = []) (ha : tI u 68 20 = 0) (hp : p = 0) (hk : k = 0) (hw : w = 1) : TEp t c0 u p k w := ⟨tA u 80, c0, h0, cr, wc, by unfold RcT; rw [hs, ho, ha, hp, hk, hw]; exact Rch.rf _⟩
theorem te_st {t u v : TS} {c0 c : PCu} {T0 T' : Nat → Int} {p k w p' k' w' pp kk a' : Int} {S' O' : List Int} (hT0 : T0 0 = 0) (wc : WC (tI t 68 9) c) (rc : RcT t c0 T0 u c p k w) (e : sy1 (tA t 75) (tI t 68 9) (tI t 68 15) c (stR u) (coR u) (tI u 68 20) w p k (tA u 80) = .inl (stC (tA t 75) (tI t 68 9) c, S', O', a', w', pp, kk, T')) (hp : p' = pp) (hk : k' = kk) (cv : CRx v (stC (tA t 75) (tI t 68 9) c)) (hs : stR v = S') (ho : coR v = O') (ha : tI v 68 20 = a') (hT : tA v 80 = T') : TEp t c0 v p' k' w' := by
  refine ⟨T0, stC (tA t 75) (tI t 68 9) c, hT0, cv, (WC.nx wc).1, ?_⟩
  unfold RcT
  rw [hs, ho, ha, hT, hk, hp]
  exact Rch.tr rc (Rch.st e)
theorem tf_0 {t u v : TS} {c0 c : PCu} {T0 : Nat → Int} {p k w z : Int} {r : PRs} (hT0 : T0 0 = 0) (rc : RcT t c0 T0 u c p k w) (e : sy1 (tA t 75) (tI t 68 9) (tI t 68 15) c (stR u) (coR u) (tI u 68 20) w p k (tA u 80) = .inr r) (hr : r.1 = tI v 68 11) (hz : z = 0) : TFp t c0 z v := by
  refine ⟨T0, hT0, Or.inr ⟨hz, ?_⟩⟩
  rw [← hr]
  exact Rft.of rc (Rft.dn e)
theorem tf_1 {t u v : TS} {c0 c : PCu} {T0 : Nat → Int} {p k w z : Int} (hT0 : T0 0 = 0) (rc : RcT t c0 T0 u c p k w) (e : sy1 (tA t 75) (tI t 68 9) (tI t 68 15) c (stR u) (coR u) (tI u 68 20) w p k (tA u 80) = .inr (-1, (stF 0 (stR u) (coR u)).2, tI u 68 20)) (ho : coR v = (stF 0 (stR u) (coR u)).2) (ha : tI v 68 20 = tI u 68 20) (hz : z = 1) : TFp t c0 z v := by
  refine ⟨T0, hT0, Or.inl ⟨hz, ?_⟩⟩
  rw [ho, ha]
  exact rc 1 _ (syr_dn e)
theorem se_t {t a b : TS} {x : Int} (h : SEq x a b) (hs : stR a = stR t) (ho : coR a = coR t) : stR b = (stF x (stR t) (coR t)).1 ∧ coR b = (stF x (stR t) (coR t)).2 := by
  have e : (stR b, coR b) = stF x (stR a) (coR a) := h
  rw [hs, ho] at e
  rw [← e]
  exact ⟨rfl, rfl⟩
theorem se_c {t a b d : TS} (h1 : stR a = (stF 0 (stR t) (coR t)).1 ∧ coR a = (stF 0 (stR t) (coR t)).2) (hb : stR b = (stR a).tail) (hc : coR b = coR a) (h : SEq 6 b d) : stR d = (stF 6 (stF 0 (stR t) (coR t)).1.tail (stF 0 (stR t) (coR t)).2).1 ∧ coR d = (stF 6 (stF 0 (stR t) (coR t)).1.tail (stF 0 (stR t) (coR t)).2).2 := by
  have e : (stR d, coR d) = stF 6 (stR b) (coR b) := h
  rw [hb, hc, h1.1, h1.2] at e
  rw [← e]
  exact ⟨rfl, rfl⟩
