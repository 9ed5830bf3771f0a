section
/-! ===== what is only thought: the table aside ===== -/
def BHp (t u : TS) (b k : Nat) : Prop := tI u 24 10 = tI t b 10 ∧ HCt u 24 ∧ Agr (tI t b 10).toNat (CP u 24) (dysF (tI t b 10).toNat (OC t b) (tI t b 12) (tI t b 14) k (CP t b)) ∧ AgO (tI t b 10).toNat (OC u 24) (OC t b) ∧ (∀ s, s < 12 → tA u 26 s = tA t (b + 2) s ∧ tA u 27 s = tA t (b + 3) s) ∧ tI u 24 12 = tI t b 12 ∧ tI u 24 14 = zdsF k (tI t b 14) (tI t b 12)
theorem ago_of {t u : TS} {b c n : Nat} (h7 : ∀ i : Nat, i < 24 → tA u (c + 7) i = tA t (b + 7) i) (h8 : ∀ i : Nat, i < 96 → tA u (c + 8) i = tA t (b + 8) i) (hn : n ≤ 12) : AgO n (OC u c) (OC t b) := by
  intro s p v hs hp hv
  unfold OC ofF
  rw [h7 _ (by omega), h7 _ (by omega), h8 _ (by omega), h8 _ (by omega)]
theorem AgO.tr {n : Nat} {A B C : Nat → Nat → Nat → Int} (h : AgO n A B) (k : AgO n B C) : AgO n A C := fun s p v hs hp hv => (h s p v hs hp hv).trans (k s p v hs hp hv)
theorem AgO.rf (n : Nat) (A : Nat → Nat → Nat → Int) : AgO n A A := fun _ _ _ _ _ _ => rfl
theorem Agr.rf (n : Nat) (x : GPU) : Agr n x x := fun _ _ => ⟨rfl, rfl⟩
theorem Agr.tr {n : Nat} {x y z : GPU} (h : Agr n x y) (k : Agr n y z) : Agr n x z := fun s hs => ⟨(h s hs).1.trans (k s hs).1, (h s hs).2.trans (k s hs).2⟩
theorem HC.cp {H P G Q : Nat → Int} {n : Nat} (h : HC H P n) (hH : ∀ i, i < 12 → G i = H i) (hP : ∀ s, s < n → Q s = P s) : HC G Q n := by
  refine ⟨fun q hq => ?_, h.2.1.congr (fun s hs => (hP s hs).symm), fun s hs => by rw [hP s hs]; exact h.2.2 s hs⟩
  rw [hH q hq, h.1 q hq]
  exact hoF_congr (fun s hs => (hP s hs).symm)
theorem bh_0 {t u : TS} {b : Nat} (h : HCt t b) (hn : tI t b 10 ≤ 12) (h10 : tI u 24 10 = tI t b 10) (h12 : tI u 24 12 = tI t b 12) (h14 : tI u 24 14 = tI t b 14) (h2 : ∀ i : Nat, i < 12 → tA u 26 i = tA t (b + 2) i) (h3 : ∀ i : Nat, i < 12 → tA u 27 i = tA t (b + 3) i) (h4 : ∀ i : Nat, i < 12 → tA u 28 i = tA t (b + 4) i) (h5 : ∀ i : Nat, i < 12 → tA u 29 i = tA t (b + 5) i) (h6 : ∀ i : Nat, i < 12 → tA u 30 i = tA t (b + 6) i) (h7 : ∀ i : Nat, i < 24 → tA u 31 i = tA t (b + 7) i) (h8 : ∀ i : Nat, i < 96 → tA u 32 i = tA t (b + 8) i) : BHp t u b 0 := by
  refine ⟨h10, ?_, fun s hs => ⟨h4 s (by omega), h5 s (by omega)⟩, ago_of (c := 24) h7 h8 (by omega), fun s hs => ⟨h2 s hs, h3 s hs⟩, h12, h14⟩
  unfold HCt
  rw [h10]
  exact HC.cp h h6 (fun s hs => h4 s (by omega))
theorem bh_s {S : List (Nat × Nat)} {t u v : TS} {b k : Nat} (h : BHp t u b k) (g : GLp u v 24 (dyF (tI u 24 10).toNat (OC u 24) (tI u 24 12) (tI u 24 14) (CP u 24))) (hz : tI v 24 14 = zdF (tI u 24 14) (tI u 24 12)) (f : Fr S u v) (h12 : (24, 12) ∉ S) (h26 : (26, 100) ∉ S) (h27 : (27, 100) ∉ S) : BHp t v b (k + 1) := by
  obtain ⟨a1, a2, a3, a4, a5, a6, a7⟩ := h
  obtain ⟨g1, g2, g3, g4⟩ := g
  refine ⟨g4.trans a1, g2, ?_, by rw [g3]; exact a4, fun s hs => ?_, (f.1 _ _ h12).trans a6, ?_⟩
  · rw [g1, a1, a6, a7]
    exact dyF_agr a3 a4
  · rw [f.2.1 _ h26, f.2.1 _ h27]
    exact a5 s hs
  · rw [hz, a6, a7]
    rfl
theorem bh_d {S : List (Nat × Nat)} {t u v : TS} {b k : Nat} (h : BHp t u b 0) (g : GLp u v 24 (dysF (tI u 24 10).toNat (OC u 24) (tI u 24 12) (tI u 24 14) k (CP u 24))) (hz : tI v 24 14 = zdsF k (tI u 24 14) (tI u 24 12)) (f : Fr S u v) (h12 : (24, 12) ∉ S) (h26 : (26, 100) ∉ S) (h27 : (27, 100) ∉ S) : BHp t v b k := by
  obtain ⟨a1, a2, a3, a4, a5, a6, a7⟩ := h
  have a7' : tI u 24 14 = tI t b 14 := a7
  obtain ⟨g1, g2, g3, g4⟩ := g
  refine ⟨g4.trans a1, g2, ?_, by rw [g3]; exact a4, fun s hs => ?_, (f.1 _ _ h12).trans a6, ?_⟩
  · rw [g1, a1, a6, a7']
    exact dysF_agr a3 a4 k
  · rw [f.2.1 _ h26, f.2.1 _ h27]
    exact a5 s hs
  · rw [hz, a6, a7']
/-- what is read off behind some days -/
def xG (t : TS) (b k : Nat) : GPU := dysF (tI t b 10).toNat (OC t b) (tI t b 12) (tI t b 14) k (CP t b)
def pcX (t : TS) (b k : Nat) : Int := picG (tI t b 10).toNat (OC t b) (xG t b k)
def mtX (t : TS) (b k : Nat) : Int := matG (tI t b 10).toNat (tA t (b + 2)) (tA t (b + 3)) (xG t b k)
def cnX (t : TS) (b k : Nat) : Int := cnG (tI t b 10).toNat (xG t b k)
def atX (t : TS) (b k : Nat) (p : Int) : Int := hoF (xG t b k).1 p (tI t b 10).toNat
theorem u24 {u : TS} (ok : OK u) (s : Nat) : 0 ≤ tA u 29 s ∧ tA u 29 s ≤ 1 := ok.a (ae_29 s)
theorem bh_pic {t u : TS} {b k : Nat} (h : BHp t u b k) (ok : OK u) : picH (OC u 24) (tA u (24 + 5)) (tA u (24 + 6)) 12 = pcX t b k := by
  obtain ⟨a1, a2, a3, a4, a5, a6, a7⟩ := h
  rw [picC a2 (OC u 24) (fun _ _ _ => rfl) (fun s => u24 ok s), a1]
  exact picG_cg a3 a4 (fun s => u24 ok s)
theorem bh_mat {t u : TS} {b k : Nat} (h : BHp t u b k) (hn : tI t b 10 ≤ 12) : maH (tA u (24 + 2)) (tA u (24 + 3)) (tA u (24 + 5)) (tA u (24 + 6)) 11 = mtX t b k := by
  obtain ⟨a1, a2, a3, a4, a5, a6, a7⟩ := h
  rw [matC a2, a1]
  exact matG_cg a3 (fun s hs => a5 s (by omega))
theorem bh_cn {t u : TS} {b k : Nat} (h : BHp t u b k) : cnH (tA u (24 + 6)) 12 = cnX t b k := by
  obtain ⟨a1, a2, a3, a4, a5, a6, a7⟩ := h
  rw [cnC a2, a1]
  exact cnG_cg a3
theorem bh_at {t u : TS} {b k : Nat} (h : BHp t u b k) {p : Nat} (hp : p < 12) : tA u (24 + 6) p = atX t b k p := by
  obtain ⟨a1, a2, a3, a4, a5, a6, a7⟩ := h
  rw [a2.1 p hp, a1]
  exact hoF_congr (fun s hs => (a3 s hs).1)
/-! folds -/
def bfF (M : Nat → Int) : Nat → Int × Int
  | 0 => (-1, 0)
  | k + 1 => if (bfF M k).1 = -1 ∨ M k < (bfF M k).2 then ((k : Int), M k) else bfF M k
def bfA (q : Int × Int) (w : Int) : Int := if q.1 = -1 then -1000000005 else if w = 0 then q.1 else q.2
theorem bfF_cg {M M' : Nat → Int} : ∀ {n : Nat}, (∀ s, s < n → M s = M' s) → bfF M n = bfF M' n
  | 0, _ => rfl
  | n + 1, h => by
    unfold bfF
    rw [bfF_cg (fun s hs => h s (by omega)), h n (by omega)]
/-- the reference's state, the other one's -/
def bfR (M : Nat → Int) (k : Nat) (best least : Int) : Prop := best = (bfF M k).1 ∧ least = (bfF M k).2
def bfC (M : Nat → Int) (k : Nat) (least which : Int) : Prop := ((bfF M k).1 = -1 ∧ which = -1000000005 ∧ least = -1000000005) ∨ (0 ≤ which ∧ which = (bfF M k).1 ∧ least = (bfF M k).2)
theorem bfR.n {M : Nat → Int} {s best least : Int} (h : bfR M s.toNat best least) (h0 : 0 ≤ s) {x : Int} (hx : x = M s.toNat) (e : ¬ best = -1 ∧ ¬ x < least) : bfR M (s + 1).toNat best least := by
  obtain ⟨h1, h2⟩ := h
  rw [show (s + 1).toNat = s.toNat + 1 by omega]
  unfold bfR bfF
  rw [if_neg (by rw [← h1, ← h2, ← hx]; omega)]
  exact ⟨h1, h2⟩
theorem bfR.y {M : Nat → Int} {s best least : Int} (h : bfR M s.toNat best least) (h0 : 0 ≤ s) {x : Int} (hx : x = M s.toNat) (e : best = -1 ∨ x < least) : bfR M (s + 1).toNat s x := by
  obtain ⟨h1, h2⟩ := h
  rw [show (s + 1).toNat = s.toNat + 1 by omega]
  unfold bfR bfF
  rw [if_pos (by rw [← h1, ← h2, ← hx]; omega)]
  exact ⟨by show s = ((s.toNat : Nat) : Int); omega, hx⟩
theorem bfC.n {M : Nat → Int} {s least which : Int} (h : bfC M s.toNat least which) (h0 : 0 ≤ s) {x : Int} (hx : x = M s.toNat) (e : ¬ which = -1000000005 ∧ ¬ x < least) : bfC M (s + 1).toNat least which := by
  rcases h with h | h
  · exact absurd h.2.1 e.1
  · have k := bfR.n (M := M) (best := which) (least := least) ⟨h.2.1, h.2.2⟩ h0 hx ⟨by omega, e.2⟩
    exact Or.inr ⟨h.1, k.1, k.2⟩
theorem bfC.y {M : Nat → Int} {s least which : Int} (h : bfC M s.toNat least which) (h0 : 0 ≤ s) {x : Int} (hx : x = M s.toNat) (e : which = -1000000005 ∨ x < least) : bfC M (s + 1).toNat x s := by
  have k : bfR M (s + 1).toNat s x := by
    rcases h with h | h
    · exact bfR.y (M := M) (best := (bfF M s.toNat).1) (least := (bfF M s.toNat).2) ⟨rfl, rfl⟩ h0 hx (Or.inl h.1)
    · exact bfR.y (M := M) (best := which) (least := least) ⟨h.2.1, h.2.2⟩ h0 hx (Or.inr (by omega))
  exact Or.inr ⟨h0, k.1, k.2⟩
theorem bfC_a {M : Nat → Int} {k : Nat} {least which w z : Int} (h : bfC M k least which) (hz : (w = 0 ∧ z = which) ∨ (¬ w = 0 ∧ z = least)) : z = bfA (bfF M k) w := by
  unfold bfA
  rcases h with h | h
  · rw [if_pos h.1]
    omega
  · rw [if_neg (by omega)]
    rcases hz with q | q
    · rw [if_pos q.1]; omega
    · rw [if_neg q.1]; omega
theorem bfR_a {M : Nat → Int} {k : Nat} {best least w z : Int} (h : bfR M k best least) (hb : -1 ≤ best) (hz : (best < 0 ∧ z = -1000000005) ∨ (¬ best < 0 ∧ w = 0 ∧ z = best) ∨ (¬ best < 0 ∧ ¬ w = 0 ∧ z = least)) : z = bfA (bfF M k) w := by
  obtain ⟨h1, h2⟩ := h
  unfold bfA
  rw [← h1, ← h2]
  rcases hz with q | q | q
  · rw [if_pos (by omega)]; exact q.2
  · rw [if_neg (by omega), if_pos q.2.1]; exact q.2.2
  · rw [if_neg (by omega), if_neg q.2.1]; exact q.2.2
/-! the best push -/
def psF (F : Nat → Int) : Nat → Int × Int
  | 0 => (0, F 0)
  | k + 1 => if (psF F k).2 < F (k + 1) then (((k + 1 : Nat) : Int), F (k + 1)) else psF F k
theorem psF_cg {F F' : Nat → Int} : ∀ {n : Nat}, (∀ s, s ≤ n → F s = F' s) → psF F n = psF F' n
  | 0, h => by unfold psF; rw [h 0 (by omega)]
  | n + 1, h => by
    unfold psF
    rw [psF_cg (fun s hs => h s (by omega)), h (n + 1) (by omega)]
def psP (F : Nat → Int) (p fro most : Int) : Prop := fro = (psF F (p - 1).toNat).1 ∧ most = (psF F (p - 1).toNat).2
theorem psP.n {F : Nat → Int} {p fro most x : Int} (h : psP F p fro most) (h1 : 1 ≤ p) (hx : x = F p.toNat) (e : ¬ most < x) : psP F (p + 1) fro most := by
  obtain ⟨a, b⟩ := h
  unfold psP
  rw [show (p + 1 - 1).toNat = (p - 1).toNat + 1 by omega]
  unfold psF
  rw [show (p - 1).toNat + 1 = p.toNat by omega, ← hx, ← b, if_neg e]
  exact ⟨a, b⟩
theorem psP.y {F : Nat → Int} {p fro most x : Int} (h : psP F p fro most) (h1 : 1 ≤ p) (hx : x = F p.toNat) (e : most < x) : psP F (p + 1) p x := by
  obtain ⟨a, b⟩ := h
  unfold psP
  rw [show (p + 1 - 1).toNat = (p - 1).toNat + 1 by omega]
  unfold psF
  rw [show (p - 1).toNat + 1 = p.toNat by omega, ← hx, ← b, if_pos e]
  exact ⟨by show p = ((p.toNat : Nat) : Int); omega, rfl⟩
/-! changing two -/
def swI (G : Nat → Int) (a : Nat) : Nat → Int × Int → Int × Int
  | 0, x => x
  | k + 1, x => if (swI G a k x).1 < G (a + 1 + k) then (G (a + 1 + k), ((100 * a + (a + 1 + k) : Nat) : Int)) else swI G a k x
def swO (G : Nat → Nat → Int) (n : Nat) : Nat → Int × Int
  | 0 => (0, -1)
  | k + 1 => swI (G k) k (n - (k + 1)) (swO G n k)
theorem swI_cg {G G' : Nat → Int} {a : Nat} {x : Int × Int} : ∀ {k : Nat}, (∀ j, j < k → G (a + 1 + j) = G' (a + 1 + j)) → swI G a k x = swI G' a k x
  | 0, _ => rfl
  | k + 1, h => by
    unfold swI
    rw [swI_cg (fun j hj => h j (by omega)), h k (by omega)]
theorem swO_cg {G G' : Nat → Nat → Int} {n : Nat} (h : ∀ a b, a < b → b < n → G a b = G' a b) : ∀ k : Nat, k ≤ n → swO G n k = swO G' n k
  | 0, _ => rfl
  | k + 1, hk => by
    unfold swO
    rw [swO_cg h k (by omega)]
    exact swI_cg (fun j hj => h k _ (by omega) (by omega))
theorem swI_0 {G : Nat → Int} {a : Nat} {x : Int × Int} (h : 0 ≤ x.1 ∧ -1 ≤ x.2) : ∀ k : Nat, 0 ≤ (swI G a k x).1 ∧ -1 ≤ (swI G a k x).2
  | 0 => h
  | k + 1 => by
    have ih := swI_0 (G := G) (a := a) h k
    unfold swI
    split
    · exact ⟨by show 0 ≤ G _; omega, by show -1 ≤ ((_ : Nat) : Int); omega⟩
    · exact ih
theorem swO_0 (G : Nat → Nat → Int) (n : Nat) : ∀ k : Nat, 0 ≤ (swO G n k).1 ∧ -1 ≤ (swO G n k).2
  | 0 => ⟨Int.le_refl 0, Int.le_refl _⟩
  | k + 1 => swI_0 (swO_0 G n k) _
/-- how one side's numbers stand to the fold (pair: none is -1000000005, or -1) -/
def swC (no : Int) (x : Int × Int) (most pair : Int) : Prop := most = x.1 ∧ ((x.2 = -1 ∧ pair = no) ∨ (0 ≤ x.2 ∧ pair = x.2))
theorem swC.n {no : Int} {G : Nat → Int} {a b most pair g : Int} {x : Int × Int} (h : swC no (swI G a.toNat (b - a - 1).toNat x) most pair) (h0 : 0 ≤ a ∧ a < b) (hg : g = G b.toNat) (e : ¬ most < g) : swC no (swI G a.toNat (b + 1 - a - 1).toNat x) most pair := by
  rw [show (b + 1 - a - 1).toNat = (b - a - 1).toNat + 1 by omega]
  unfold swI
  rw [show a.toNat + 1 + (b - a - 1).toNat = b.toNat by omega, ← hg, if_neg (by rw [← h.1]; exact e)]
  exact h
theorem swC.y {no : Int} {G : Nat → Int} {a b most pair g : Int} {x : Int × Int} (h : swC no (swI G a.toNat (b - a - 1).toNat x) most pair) (h0 : 0 ≤ a ∧ a < b) (hg : g = G b.toNat) (e : most < g) : swC no (swI G a.toNat (b + 1 - a - 1).toNat x) g (100 * a + b) := by
  rw [show (b + 1 - a - 1).toNat = (b - a - 1).toNat + 1 by omega]
  unfold swI
  rw [show a.toNat + 1 + (b - a - 1).toNat = b.toNat by omega, ← hg, if_pos (by rw [← h.1]; exact e)]
  refine ⟨rfl, Or.inr ⟨by show 0 ≤ ((_ : Nat) : Int); omega, by show 100 * a + b = ((_ : Nat) : Int); omega⟩⟩
theorem swC.i {no : Int} {G : Nat → Nat → Int} {n : Nat} {a most pair : Int} (h : swC no (swO G n a.toNat) most pair) : swC no (swI (G a.toNat) a.toNat (a + 1 - a - 1).toNat (swO G n a.toNat)) most pair := by
  rw [show (a + 1 - a - 1).toNat = 0 by omega]
  exact h
theorem swC.o {no : Int} {G : Nat → Nat → Int} {n : Nat} {a b most pair : Int} (h : swC no (swI (G a.toNat) a.toNat (b - a - 1).toNat (swO G n a.toNat)) most pair) (h0 : 0 ≤ a) (hb : b.toNat = n ∧ a < b) : swC no (swO G n (a + 1).toNat) most pair := by
  rw [show (a + 1).toNat = a.toNat + 1 by omega]
  unfold swO
  rw [show n - (a.toNat + 1) = (b - a - 1).toNat by omega]
  exact h
theorem swC_a {no most pair z : Int} {x : Int × Int} (h : swC no x most pair) (hno : no = -1000000005 ∨ no = -1) (hz : (no = -1000000005 ∧ z = pair) ∨ (no = -1 ∧ ((pair < 0 ∧ z = -1000000005) ∨ (0 ≤ pair ∧ z = pair)))) : z = if x.2 = -1 then -1000000005 else x.2 := by
  obtain ⟨_, h⟩ := h
  split <;> omega
/-! the first place -/
def FsP (C : Nat → Prop) (n z : Int) : Prop := (z = -1000000005 ∧ ∀ k : Int, 0 ≤ k → k < n → ¬ C k.toNat) ∨ (0 ≤ z ∧ z < n ∧ C z.toNat ∧ ∀ k : Int, 0 ≤ k → k < z → ¬ C k.toNat)
theorem FsP.un {C D : Nat → Prop} {n y z : Int} (h : FsP C n y) (k : FsP D n z) (e : ∀ i : Int, 0 ≤ i → i < n → (C i.toNat ↔ D i.toNat)) : y = z := by
  rcases h with h | h
  · rcases k with k | k
    · omega
    · exact absurd ((e z k.1 k.2.1).mpr k.2.2.1) (h.2 z k.1 k.2.1)
  · rcases k with k | k
    · exact absurd ((e y h.1 h.2.1).mp h.2.2.1) (k.2 y h.1 h.2.1)
    · have a := k.2.2.2 y h.1
      have b := h.2.2.2 z k.1
      have c := (e y h.1 h.2.1).mp h.2.2.1
      have d := (e z k.1 k.2.1).mpr k.2.2.1
      by_cases q : y < z
      · exact absurd c (a q)
      · by_cases q2 : z < y
        · exact absurd d (b q2)
        · omega
/-! days told -/
def dueF (P M : Nat → Int) (i : Int) : Int := if i % 2 = 0 then P (i / 2 + 1).toNat else M (i / 2 + 1).toNat
def RiP (P M : Nat → Int) (w : Nat → Int) (many due r : Int) : Prop := 0 ≤ r ∧ r ≤ due ∧ (∀ i : Int, 0 ≤ i → i < r → i < many ∧ w i.toNat = dueF P M i) ∧ (r = due ∨ ¬ (r < many ∧ w r.toNat = dueF P M r))
def CkP (P M : Nat → Int) (w : Nat → Int) (many due z : Int) : Prop := ∃ r, RiP P M w many due r ∧ z = if r = many ∧ r = due then 0 else 1 + r
theorem RiP.un {P M P' M' w w' : Nat → Int} {many due r r' : Int} (h : RiP P M w many due r) (h' : RiP P' M' w' many due r') (e : ∀ i : Int, 0 ≤ i → i < due → i < many → (w i.toNat = dueF P M i ↔ w' i.toNat = dueF P' M' i)) : r = r' := by
  obtain ⟨a1, a2, a3, a4⟩ := h
  obtain ⟨b1, b2, b3, b4⟩ := h'
  by_cases q : r < r'
  · have c := b3 r a1 q
    rcases a4 with d | d
    · omega
    · exact absurd ⟨c.1, (e r a1 (by omega) c.1).mpr c.2⟩ d
  · by_cases q2 : r' < r
    · have c := a3 r' b1 q2
      rcases b4 with d | d
      · omega
      · exact absurd ⟨c.1, (e r' b1 (by omega) c.1).mp c.2⟩ d
    · omega
theorem CkP.un {P M P' M' w w' : Nat → Int} {many due z z' : Int} (h : CkP P M w many due z) (h' : CkP P' M' w' many due z') (e : ∀ i : Int, 0 ≤ i → i < due → i < many → (w i.toNat = dueF P M i ↔ w' i.toNat = dueF P' M' i)) : z = z' := by
  obtain ⟨r, h1, h2⟩ := h
  obtain ⟨r', k1, k2⟩ := h'
  have := h1.un k1 e
  subst this
  rw [h2, k2]
/-! bytes -/
def byF (x s : Int) : Int := fZ (fun x y => x &&& y) (fZ (fun x y => (x.toUInt32 >>> (y.toUInt32 &&& Int32.toUInt32 31)).toInt32) x s) 255
def fbF (x y w : Int) (k : Nat) : Int := byF (if k < 4 then x else if k < 8 then y else w) (24 - 8 * ((k % 4 : Nat) : Int))
end
section
def WOp (t u : TS) (s : Nat) : Prop := HCt u 24 ∧ tI u 24 10 = tI t 1 10 ∧ Agr (tI t 1 10).toNat (CP u 24) (upF (tA t 5) s 13, tA t 6) ∧ AgO (tI t 1 10).toNat (OC u 24) (OC t 1) ∧ tI u 24 12 = tI t 1 12 ∧ tI u 24 14 = tI t 1 14
theorem wo_1 {S : List (Nat × Nat)} {t u v : TS} {s : Int} (h : BHp t u 1 0) (hs : 0 ≤ s ∧ s ≤ tI t 1 10 - 1) (h4 : tA v (24 + 4) = upF (tA u (24 + 4)) s.toNat 13) (h6 : tA v (24 + 6) = mvH (tA u (24 + 6)) (tA u (24 + 4)) s.toNat 13) (f : Fr S u v) (k5 : (29, 100) ∉ S) (k7 : (31, 100) ∉ S) (k8 : (32, 100) ∉ S) (k10 : (24, 10) ∉ S) (k12 : (24, 12) ∉ S) (k14 : (24, 14) ∉ S) (k26 : (26, 100) ∉ S) (k27 : (27, 100) ∉ S) : WOp t v s.toNat := by
  obtain ⟨a1, a2, a3, a4, a5, a6, a7⟩ := h
  have e5 := funext (f.2.1 _ k5)
  have e7 := funext (f.2.1 _ k7)
  have e8 := funext (f.2.1 _ k8)
  refine ⟨?_, (f.1 _ _ k10).trans a1, fun q hq => ?_, ?_, (f.1 _ _ k12).trans a6, (f.1 _ _ k14).trans a7⟩
  · unfold HCt
    rw [h4, h6, f.1 _ _ k10]
    exact HC.mv a2 (by rw [a1]; omega) (by decide) (fun e => absurd e (by decide))
  · have k := a3 q hq
    refine ⟨?_, ?_⟩
    · show tA v (24 + 4) q = upF (tA t 5) s.toNat 13 q
      rw [h4]
      unfold upF
      split
      · rfl
      · exact k.1
    · show tA v (24 + 5) q = tA t 6 q
      rw [show 24 + 5 = 29 from rfl, e5]
      exact k.2
  · have e : OC v 24 = OC u 24 := by
      unfold OC
      rw [show 24 + 7 = 31 from rfl, show 24 + 8 = 32 from rfl, e7, e8]
    rw [e]
    exact a4
def WRp (t u : TS) (s k : Nat) : Prop := HCt u 24 ∧ tI u 24 10 = tI t 1 10 ∧ Agr (tI t 1 10).toNat (CP u 24) (dysF (tI t 1 10).toNat (OC t 1) (tI t 1 12) (tI t 1 14) k (upF (tA t 5) s 13, tA t 6)) ∧ AgO (tI t 1 10).toNat (OC u 24) (OC t 1)
theorem wo_2 {S : List (Nat × Nat)} {t u v : TS} {s k : Nat} (h : WOp t u s) (g : GLp u v 24 (dysF (tI u 24 10).toNat (OC u 24) (tI u 24 12) (tI u 24 14) k (CP u 24))) (f : Fr S u v) : WRp t v s k := by
  obtain ⟨a1, a2, a3, a4, a5, a6⟩ := h
  obtain ⟨g1, g2, g3, g4⟩ := g
  refine ⟨g2, g4.trans a2, ?_, by rw [g3]; exact a4⟩
  rw [g1, a2, a5, a6]
  exact dysF_agr a3 a4 k
theorem wo_3 {t u : TS} {s k : Nat} (h : WRp t u s k) (ok : OK u) : picH (OC u 24) (tA u (24 + 5)) (tA u (24 + 6)) 12 = picG (tI t 1 10).toNat (OC t 1) (dysF (tI t 1 10).toNat (OC t 1) (tI t 1 12) (tI t 1 14) k (upF (tA t 5) s 13, tA t 6)) := by
  obtain ⟨a1, a2, a3, a4⟩ := h
  rw [picC a1 (OC u 24) (fun _ _ _ => rfl) (fun s => u24 ok s), a2]
  exact picG_cg a3 a4 (fun s => u24 ok s)
set_option maxRecDepth 100000 in
set_option maxHeartbeats 4000000 in
theorem e_X7_behindDays_tab {d : Nat} {t : TS} {n : Int}  (ok : OK t) (q0 : HCt t 1) (q1 : 0 ≤ n) (q2 : n ≤ 1000) : CR (EX FU (d + 6)) 68 [.ref 23, .ref 1, .int (jI n)] (mk t) (fun z t' => OK t' ∧ Fr [(24, 10), (24, 11), (24, 12), (24, 13), (24, 14), (25, 100), (26, 100), (27, 100), (28, 100), (29, 100), (30, 100), (31, 100), (32, 100), (34, 100), (33, 101)] t t' ∧ (z = some 24) ∧ (BHp t t' 1 n.toNat)) := by
  refine CR_ent (d := d + 5) (Bk := bX7_behindDays) (nL := 3) rfl rfl rfl (Nat.le_of_ble_eq_true rfl) ?_
  show Rn _ 1000000 0 [some (.ref 23), some (.ref 1), some (.int (jI n))] [] _ _
  have fr : Fr [(24, 10), (24, 11), (24, 12), (24, 13), (24, 14), (25, 100), (26, 100), (27, 100), (28, 100), (29, 100), (30, 100), (31, 100), (32, 100), (34, 100), (33, 101)] t t := Fr.rf _ _
  have hc := q0
  have hnb := ok.f fe_1_10
  refine w_step rfl ?_
  refine w_aload rfl ?_
  refine w_getR (g_23_0 _) ?_
  refine w_aload rfl ?_
  refine w_callV1V (oj_24 _).choose_spec rfl (c_X4_become_24_1 ok) ?_
  rintro t1 ⟨ok1, fq1, hp1_0, hp1_1, hp1_2, hp1_3, hp1_4, hp1_5, hp1_6, hp1_7, hp1_8, hp1_9, hp1_10, hp1_11, hp1_12, hp1_13, hp1_14⟩
  have fr1 := fr.then fq1 (by simp)
  have bh : BHp t t1 1 0 := bh_0 hc (by omega) hp1_0 hp1_2 hp1_4 hp1_6 hp1_7 hp1_8 hp1_9 hp1_10 hp1_11 hp1_12
  refine w_aload rfl ?_
  refine w_getR (g_23_0 _) ?_
  refine w_iload rfl ?_
  refine w_callV1V (oj_24 _).choose_spec rfl (e_X4_passDays isT24 ok1 bh.2.1 (by omega) (by omega) (by omega)) ?_
  rintro t2 ⟨ok2, fq2, hp2_0, hp2_1, hp2_2⟩
  have fr2 := fr1.then fq2 (by simp)
  have bh : BHp t t2 1 n.toNat := bh_d bh hp2_2 hp2_0 fq2 (by simp) (by simp) (by simp)
  refine w_aload rfl ?_
  refine w_getR (g_23_0 _) ?_
  refine w_retR rfl ?_
  exact ⟨ok2, fr2, rfl, bh⟩
set_option maxRecDepth 100000 in
set_option maxHeartbeats 4000000 in
theorem e_X7_daysTillLaid {d : Nat} {t : TS}  (ok : OK t) (q0 : HCt t 1) : CI (EX FU (d + 5)) 69 [.ref 23, .ref 1] (mk t) (fun z t' => OK t' ∧ Fr [(24, 10), (24, 11), (24, 12), (24, 13), (24, 14), (25, 100), (26, 100), (27, 100), (28, 100), (29, 100), (30, 100), (31, 100), (32, 100), (34, 100), (33, 101)] t t' ∧ (-2147483648 ≤ z) ∧ (z ≤ 2147483647) ∧ (FsP (fun m => (cnX t 1 m = 12 ∨ cnX t 1 m = tI t 1 10)) 201 z)) := by
  refine CI_ent (d := d + 4) (Bk := bX7_daysTillLaid) (nL := 4) rfl rfl rfl (Nat.le_of_ble_eq_true rfl) ?_
  show Rn _ 1000000 0 [some (.ref 23), some (.ref 1), none, none] [] _ _
  have fr : Fr [(24, 10), (24, 11), (24, 12), (24, 13), (24, 14), (25, 100), (26, 100), (27, 100), (28, 100), (29, 100), (30, 100), (31, 100), (32, 100), (34, 100), (33, 101)] t t := Fr.rf _ _
  have hc := q0
  have hnb := ok.f fe_1_10
  refine w_step rfl ?_
  refine w_aload rfl ?_
  refine w_getR (g_23_0 _) ?_
  refine w_aload rfl ?_
  refine w_callV1V (oj_24 _).choose_spec rfl (c_X4_become_24_1 ok) ?_
  rintro t1 ⟨ok1, fq1, hp1_0, hp1_1, hp1_2, hp1_3, hp1_4, hp1_5, hp1_6, hp1_7, hp1_8, hp1_9, hp1_10, hp1_11, hp1_12, hp1_13, hp1_14⟩
  have fr1 := fr.then fq1 (by simp)
  have bh : BHp t t1 1 0 := bh_0 hc (by omega) hp1_0 hp1_2 hp1_4 hp1_6 hp1_7 hp1_8 hp1_9 hp1_10 hp1_11 hp1_12
  refine w_push kc_0 ?_
  refine w_istore (lv' := [some (.ref 23), some (.ref 1), some (.int (jI 0)), none]) rfl ?_
  refine w_goto ?_
  have key1 : ∀ (n1 M1 : Nat) (n : Int) (o3 : Option Int) (t2 : TS), OK t2 → Fr [(24, 10), (24, 11), (24, 12), (24, 13), (24, 14), (25, 100), (26, 100), (27, 100), (28, 100), (29, 100), (30, 100), (31, 100), (32, 100), (34, 100), (33, 101)] t t2 → (0 ≤ n) → (n ≤ 201) → (BHp t t2 1 n.toNat) → (∀ k : Int, 0 ≤ k → k < n → ¬ (cnX t 1 k.toNat = 12 ∨ cnX t 1 k.toNat = tI t 1 10)) → 201 - n < (n1 : Int) → 60 * n1 + (1000) ≤ M1 → Rn (bX7_daysTillLaid (EX FU (d + 4))) M1 1 [some (.ref 23), some (.ref 1), some (.int (jI n)), dv o3] [] (mk t2) (PI (fun z t' => OK t' ∧ Fr [(24, 10), (24, 11), (24, 12), (24, 13), (24, 14), (25, 100), (26, 100), (27, 100), (28, 100), (29, 100), (30, 100), (31, 100), (32, 100), (34, 100), (33, 101)] t t' ∧ (-2147483648 ≤ z) ∧ (z ≤ 2147483647) ∧ (FsP (fun m => (cnX t 1 m = 12 ∨ cnX t 1 m = tI t 1 10)) 201 z))) := by
    intro n1
    induction n1 with
    | zero => intro M1 n o3 t2 ok2 fr2 i1_0 i1_1 i1_2 i1_3 v1 f1; exfalso; omega
    | succ n1 ih1 =>
      intro M1 n o3 t2 ok2 fr2 i1_0 i1_1 i1_2 i1_3 v1 f1
      obtain ⟨M1, rfl⟩ : ∃ m, M1 = m + 60 := ⟨M1 - 60, by omega⟩
      refine w_step rfl ?_
      refine w_iload rfl ?_
      refine w_push kc_200 ?_
      refine w_cgt (by omega) (fun h3 => ?_) (fun h3 => ?_)
      · skip
        refine w_step rfl ?_
        refine w_push kc_m1000000005 ?_
        refine w_retI rfl ?_
        exact ⟨ok2, fr2, (by omega), (by omega), (by first | exact Or.inr ⟨by omega, by omega, by first | (show _ ∨ _; omega), i1_3⟩ | exact Or.inl ⟨rfl, fun k h1 h2 => i1_3 k h1 (by omega)⟩)⟩
      refine w_aload rfl ?_
      refine w_getR (g_23_0 _) ?_
      refine w_callV0I (oj_24 _).choose_spec rfl (e_X4_laidStones isT24 ok2) ?_
      rintro z4 t4 ⟨rfl, hp4_0, hp4_1, hp4_2⟩
      have hcn : z4 = cnX t 1 n.toNat := by rw [hp4_0]; exact bh_cn i1_2
      refine w_istore (lv' := [some (.ref 23), some (.ref 1), some (.int (jI n)), some (.int (jI z4))]) rfl ?_
      refine w_iload rfl ?_
      refine w_push kc_12 ?_
      refine w_ceq (by omega) (fun h5 => ?_) (fun h5 => ?_)
      · skip
        refine w_step rfl ?_
        refine w_iload rfl ?_
        refine w_retI rfl ?_
        exact ⟨ok2, fr2, (by omega), (by omega), (by first | exact Or.inr ⟨by omega, by omega, by first | (show _ ∨ _; omega), i1_3⟩ | exact Or.inl ⟨rfl, fun k h1 h2 => i1_3 k h1 (by omega)⟩)⟩
      refine w_iload rfl ?_
      refine w_aload rfl ?_
      refine w_getR (g_23_0 _) ?_
      refine w_getI (g_24_10 _) fe_24_10 ok2 (fun z6 hz6 hl6 hh6 => ?_)
      have hst : z6 = tI t 1 10 := hz6.trans i1_2.1
      refine w_cne (by omega) (fun h7 => ?_) (fun h7 => ?_)
      · skip
        refine w_step rfl ?_
        refine w_aload rfl ?_
        refine w_getR (g_23_0 _) ?_
        refine w_callV0V (oj_24 _).choose_spec rfl (e_X4_passDay isT24 ok2 i1_2.2.1) ?_
        rintro t8 ⟨ok8, fq8, hp8_0, hp8_1, hp8_2⟩
        have fr8 := fr2.then fq8 (by simp)
        have bh2 : BHp t t8 1 (n + 1).toNat := by
          rw [show (n + 1).toNat = n.toNat + 1 by omega]
          exact bh_s i1_2 hp8_2 hp8_0 fq8 (by simp) (by simp) (by simp)
        refine w_iinc (lv' := [some (.ref 23), some (.ref 1), some (.int (jI (n + 1))), some (.int (jI z4))]) kc_1 rfl rfl ?_
        refine w_goto ?_
        exact ih1 _ (n + 1) (some z4) t8 ok8 fr8 (by omega) (by omega) bh2 (fun k h1 h2 => (Int.lt_or_eq_of_le (show k ≤ n by omega)).elim (i1_3 k h1) (fun e => by rw [e]; omega)) (by omega) (by omega)
      refine w_goto ?_
      refine w_step rfl ?_
      refine w_iload rfl ?_
      refine w_retI rfl ?_
      exact ⟨ok2, fr2, (by omega), (by omega), (by first | exact Or.inr ⟨by omega, by omega, by first | (show _ ∨ _; omega), i1_3⟩ | exact Or.inl ⟨rfl, fun k h1 h2 => i1_3 k h1 (by omega)⟩)⟩
  exact key1 202 _ 0 none t1 ok1 fr1 (by omega) (by omega) bh (fun k h1 h2 => by omega) (by omega) (by omega)
set_option maxRecDepth 100000 in
set_option maxHeartbeats 4000000 in
theorem e_X7_pictureWithout {d : Nat} {t : TS} {s n : Int}  (ok : OK t) (q0 : HCt t 1) (q1 : 0 ≤ s) (q2 : s ≤ 11) (q3 : s ≤ tI t 1 10 - 1) (q4 : 0 ≤ n) (q5 : n ≤ 1000) : CI (EX FU (d + 6)) 70 [.ref 23, .ref 1, .int (jI s), .int (jI n)] (mk t) (fun z t' => OK t' ∧ Fr [(24, 10), (24, 11), (24, 12), (24, 13), (24, 14), (25, 100), (26, 100), (27, 100), (28, 100), (29, 100), (30, 100), (31, 100), (32, 100), (34, 100), (33, 101)] t t' ∧ (0 ≤ z) ∧ (z ≤ 2376) ∧ (z = picG (tI t 1 10).toNat (OC t 1) (dysF (tI t 1 10).toNat (OC t 1) (tI t 1 12) (tI t 1 14) n.toNat (upF (tA t 5) s.toNat 13, tA t 6)))) := by
  refine CI_ent (d := d + 5) (Bk := bX7_pictureWithout) (nL := 4) rfl rfl rfl (Nat.le_of_ble_eq_true rfl) ?_
  show Rn _ 1000000 0 [some (.ref 23), some (.ref 1), some (.int (jI s)), some (.int (jI n))] [] _ _
  have fr : Fr [(24, 10), (24, 11), (24, 12), (24, 13), (24, 14), (25, 100), (26, 100), (27, 100), (28, 100), (29, 100), (30, 100), (31, 100), (32, 100), (34, 100), (33, 101)] t t := Fr.rf _ _
  have hc := q0
  have hnb := ok.f fe_1_10
  refine w_step rfl ?_
  refine w_aload rfl ?_
  refine w_getR (g_23_0 _) ?_
  refine w_aload rfl ?_
  refine w_callV1V (oj_24 _).choose_spec rfl (c_X4_become_24_1 ok) ?_
  rintro t1 ⟨ok1, fq1, hp1_0, hp1_1, hp1_2, hp1_3, hp1_4, hp1_5, hp1_6, hp1_7, hp1_8, hp1_9, hp1_10, hp1_11, hp1_12, hp1_13, hp1_14⟩
  have fr1 := fr.then fq1 (by simp)
  have bh : BHp t t1 1 0 := bh_0 hc (by omega) hp1_0 hp1_2 hp1_4 hp1_6 hp1_7 hp1_8 hp1_9 hp1_10 hp1_11 hp1_12
  refine w_aload rfl ?_
  refine w_getR (g_23_0 _) ?_
  refine w_iload rfl ?_
  refine w_push kc_13 ?_
  refine w_callV2V (oj_24 _).choose_spec rfl (e_X4_moveTo isT24 ok1 (by omega) (by omega) (by omega) (by omega)) ?_
  rintro t2 ⟨ok2, fq2, hp2_0, hp2_1⟩
  have fr2 := fr1.then fq2 (by simp)
  have wq := wo_1 bh (by omega) hp2_0 hp2_1 fq2 (by simp) (by simp) (by simp) (by simp) (by simp) (by simp) (by simp) (by simp)
  refine w_aload rfl ?_
  refine w_getR (g_23_0 _) ?_
  refine w_iload rfl ?_
  refine w_callV1V (oj_24 _).choose_spec rfl (e_X4_passDays isT24 ok2 wq.1 (by omega) (by omega) (by omega)) ?_
  rintro t3 ⟨ok3, fq3, hp3_0, hp3_1, hp3_2⟩
  have fr3 := fr2.then fq3 (by simp)
  have wr := wo_2 wq hp3_2 fq3
  refine w_aload rfl ?_
  refine w_getR (g_23_0 _) ?_
  refine w_callV0I (oj_24 _).choose_spec rfl (e_X4_picture isT24 ok3) ?_
  rintro z4 t4 ⟨rfl, hp4_0, hp4_1, hp4_2⟩
  refine w_retI rfl ?_
  exact ⟨ok3, fr3, (by omega), (by omega), (by rw [hp4_2]; exact wo_3 wr ok3)⟩
set_option maxRecDepth 100000 in
set_option maxHeartbeats 4000000 in
theorem e_X7_rightAhead {d : Nat} {t : TS} {n m : Int}  (ok : OK t) (q0 : HCt t 12) (q1 : 0 ≤ n) (q2 : n ≤ 30) (q3 : 0 ≤ m) (q4 : m ≤ 60) : CI (EX FU (d + 5)) 71 [.ref 23, .ref 12, .int (jI n), .ref 44, .int (jI m)] (mk t) (fun z t' => OK t' ∧ Fr [(24, 10), (24, 11), (24, 12), (24, 13), (24, 14), (25, 100), (26, 100), (27, 100), (28, 100), (29, 100), (30, 100), (31, 100), (32, 100), (34, 100), (33, 101)] t t' ∧ (-1 ≤ z) ∧ (z ≤ 60) ∧ (CkP (pcX t 12) (mtX t 12) (tA t 44) m (2 * n) (if z = -1 then 0 else 1 + z))) := by
  refine CI_ent (d := d + 4) (Bk := bX7_rightAhead) (nL := 7) rfl rfl rfl (Nat.le_of_ble_eq_true rfl) ?_
  show Rn _ 1000000 0 [some (.ref 23), some (.ref 12), some (.int (jI n)), some (.ref 44), some (.int (jI m)), none, none] [] _ _
  have fr : Fr [(24, 10), (24, 11), (24, 12), (24, 13), (24, 14), (25, 100), (26, 100), (27, 100), (28, 100), (29, 100), (30, 100), (31, 100), (32, 100), (34, 100), (33, 101)] t t := Fr.rf _ _
  have hc := q0
  have hnb := ok.f fe_12_10
  refine w_step rfl ?_
  refine w_aload rfl ?_
  refine w_getR (g_23_0 _) ?_
  refine w_aload rfl ?_
  refine w_callV1V (oj_24 _).choose_spec rfl (c_X4_become_24_12 ok) ?_
  rintro t1 ⟨ok1, fq1, hp1_0, hp1_1, hp1_2, hp1_3, hp1_4, hp1_5, hp1_6, hp1_7, hp1_8, hp1_9, hp1_10, hp1_11, hp1_12, hp1_13, hp1_14⟩
  have fr1 := fr.then fq1 (by simp)
  have bh : BHp t t1 12 0 := bh_0 hc (by omega) hp1_0 hp1_2 hp1_4 hp1_6 hp1_7 hp1_8 hp1_9 hp1_10 hp1_11 hp1_12
  refine w_push kc_0 ?_
  refine w_istore (lv' := [some (.ref 23), some (.ref 12), some (.int (jI n)), some (.ref 44), some (.int (jI m)), some (.int (jI 0)), none]) rfl ?_
  refine w_goto ?_
  have key1 : ∀ (n1 M1 : Nat) (i : Int) (o6 : Option Int) (t2 : TS), OK t2 → Fr [(24, 10), (24, 11), (24, 12), (24, 13), (24, 14), (25, 100), (26, 100), (27, 100), (28, 100), (29, 100), (30, 100), (31, 100), (32, 100), (34, 100), (33, 101)] t t2 → (0 ≤ i) → (i ≤ 2 * n) → (BHp t t2 12 ((i + 1) / 2).toNat) → (∀ k : Int, 0 ≤ k → k < i → k < m ∧ tA t 44 k.toNat = dueF (pcX t 12) (mtX t 12) k) → 60 - i < (n1 : Int) → 60 * n1 + (1000) ≤ M1 → Rn (bX7_rightAhead (EX FU (d + 4))) M1 1 [some (.ref 23), some (.ref 12), some (.int (jI n)), some (.ref 44), some (.int (jI m)), some (.int (jI i)), dv o6] [] (mk t2) (PI (fun z t' => OK t' ∧ Fr [(24, 10), (24, 11), (24, 12), (24, 13), (24, 14), (25, 100), (26, 100), (27, 100), (28, 100), (29, 100), (30, 100), (31, 100), (32, 100), (34, 100), (33, 101)] t t' ∧ (-1 ≤ z) ∧ (z ≤ 60) ∧ (CkP (pcX t 12) (mtX t 12) (tA t 44) m (2 * n) (if z = -1 then 0 else 1 + z)))) := by
    intro n1
    induction n1 with
    | zero => intro M1 i o6 t2 ok2 fr2 i1_0 i1_1 i1_2 i1_3 v1 f1; exfalso; omega
    | succ n1 ih1 =>
      intro M1 i o6 t2 ok2 fr2 i1_0 i1_1 i1_2 i1_3 v1 f1
      obtain ⟨M1, rfl⟩ : ∃ m, M1 = m + 60 := ⟨M1 - 60, by omega⟩
      refine w_step rfl ?_
      refine w_iload rfl ?_
      refine w_push kc_2 ?_
      refine w_iload rfl ?_
      refine w_mul ?_
      refine w_cge (by omega) (fun h3 => ?_) (fun h3 => ?_)
      · skip
        refine w_step rfl ?_
        refine w_iload rfl ?_
        refine w_push kc_2 ?_
        refine w_iload rfl ?_
        refine w_mul ?_
        refine w_cle (by omega) (fun h4 => ?_) (fun h4 => ?_)
        · skip
          refine w_step rfl ?_
          refine w_push kc_m1 ?_
          refine w_goto ?_
          refine w_step rfl ?_
          refine w_retI rfl ?_
          exact ⟨ok2, fr2, (by omega), (by omega), (by first | exact ⟨_, ⟨i1_0, i1_1, i1_3, Or.inr (by omega)⟩, by rw [if_neg (by omega), if_neg (by omega)]⟩ | exact ⟨2 * n, ⟨by omega, by omega, fun k h1 h2 => i1_3 k h1 (by omega), Or.inl rfl⟩, by rw [if_neg (by omega), if_neg (by omega)]⟩ | exact ⟨2 * n, ⟨by omega, by omega, fun k h1 h2 => i1_3 k h1 (by omega), Or.inl rfl⟩, by rw [if_pos rfl, if_pos ⟨by have h9 := i1_3 (2 * n - 1); omega, rfl⟩]⟩)⟩
        refine w_push kc_2 ?_
        refine w_iload rfl ?_
        refine w_mul ?_
        refine w_goto ?_
        refine w_step rfl ?_
        refine w_retI rfl ?_
        exact ⟨ok2, fr2, (by omega), (by omega), (by first | exact ⟨_, ⟨i1_0, i1_1, i1_3, Or.inr (by omega)⟩, by rw [if_neg (by omega), if_neg (by omega)]⟩ | exact ⟨2 * n, ⟨by omega, by omega, fun k h1 h2 => i1_3 k h1 (by omega), Or.inl rfl⟩, by rw [if_neg (by omega), if_neg (by omega)]⟩ | exact ⟨2 * n, ⟨by omega, by omega, fun k h1 h2 => i1_3 k h1 (by omega), Or.inl rfl⟩, by rw [if_pos rfl, if_pos ⟨by have h9 := i1_3 (2 * n - 1); omega, rfl⟩]⟩)⟩
      refine w_iload rfl ?_
      refine w_push kc_2 ?_
      refine w_rem (by omega) ?_
      refine w_ine (by omega) (fun h5 => ?_) (fun h5 => ?_)
      · skip
        refine w_step rfl ?_
        have bh2 : BHp t t2 12 ((i + 2) / 2).toNat := by first | exact bh2 | (rw [show ((i + 2) / 2).toNat = ((i + 1) / 2).toNat by omega]; exact i1_2) | omega
        refine w_iload rfl ?_
        refine w_push kc_2 ?_
        refine w_rem (by omega) ?_
        refine w_ine (by omega) (fun _ => ?_) (fun h => absurd (by omega) h)
        refine w_step rfl ?_
        refine w_aload rfl ?_
        refine w_getR (g_23_0 _) ?_
        refine w_callV0I (oj_24 _).choose_spec rfl (e_X4_matches isT24 ok2) ?_
        rintro z6 t6 ⟨rfl, hp6_0, hp6_1, hp6_2⟩
        have hdu : z6 = dueF (pcX t 12) (mtX t 12) i := by
          unfold dueF
          rw [if_neg (by omega), hp6_2, show (i / 2 + 1).toNat = ((i + 2) / 2).toNat by omega]
          exact bh_mat bh2 (by omega)
        refine w_goto ?_
        refine w_step rfl ?_
        refine w_istore (lv' := [some (.ref 23), some (.ref 12), some (.int (jI n)), some (.ref 44), some (.int (jI m)), some (.int (jI i)), some (.int (jI z6))]) rfl ?_
        refine w_iload rfl ?_
        refine w_iload rfl ?_
        refine w_cge (by omega) (fun h7 => ?_) (fun h7 => ?_)
        · skip
          refine w_step rfl ?_
          refine w_iload rfl ?_
          refine w_retI rfl ?_
          exact ⟨ok2, fr2, (by omega), (by omega), (by first | exact ⟨_, ⟨i1_0, i1_1, i1_3, Or.inr (by omega)⟩, by rw [if_neg (by omega), if_neg (by omega)]⟩ | exact ⟨2 * n, ⟨by omega, by omega, fun k h1 h2 => i1_3 k h1 (by omega), Or.inl rfl⟩, by rw [if_neg (by omega), if_neg (by omega)]⟩ | exact ⟨2 * n, ⟨by omega, by omega, fun k h1 h2 => i1_3 k h1 (by omega), Or.inl rfl⟩, by rw [if_pos rfl, if_pos ⟨by have h9 := i1_3 (2 * n - 1); omega, rfl⟩]⟩)⟩
        refine w_aload rfl ?_
        refine w_iload rfl ?_
        refine w_iald (i := (i).toNat) (ai_44 _) (by omega) (by omega) (ae_44 _) ok2 (fun z8 hz8 hl8 hh8 => ?_)
        have hw : z8 = tA t 44 i.toNat := by rw [hz8, fr2.2.1 44 (by simp)]
        refine w_iload rfl ?_
        refine w_ceq (by omega) (fun h9 => ?_) (fun h9 => ?_)
        · skip
          refine w_step rfl ?_
          refine w_iinc (lv' := [some (.ref 23), some (.ref 12), some (.int (jI n)), some (.ref 44), some (.int (jI m)), some (.int (jI (i + 1))), some (.int (jI z6))]) kc_1 rfl rfl ?_
          refine w_goto ?_
          exact ih1 _ (i + 1) (some z6) t2 ok2 fr2 (by omega) (by omega) (by rw [show ((i + 1 + 1) / 2).toNat = ((i + 2) / 2).toNat by omega]; exact bh2) (fun k h1 h2 => (Int.lt_or_eq_of_le (show k ≤ i by omega)).elim (i1_3 k h1) (fun e => by rw [e]; exact ⟨by omega, by omega⟩)) (by omega) (by omega)
        refine w_goto ?_
        refine w_step rfl ?_
        refine w_iload rfl ?_
        refine w_retI rfl ?_
        exact ⟨ok2, fr2, (by omega), (by omega), (by first | exact ⟨_, ⟨i1_0, i1_1, i1_3, Or.inr (by omega)⟩, by rw [if_neg (by omega), if_neg (by omega)]⟩ | exact ⟨2 * n, ⟨by omega, by omega, fun k h1 h2 => i1_3 k h1 (by omega), Or.inl rfl⟩, by rw [if_neg (by omega), if_neg (by omega)]⟩ | exact ⟨2 * n, ⟨by omega, by omega, fun k h1 h2 => i1_3 k h1 (by omega), Or.inl rfl⟩, by rw [if_pos rfl, if_pos ⟨by have h9 := i1_3 (2 * n - 1); omega, rfl⟩]⟩)⟩
      refine w_aload rfl ?_
      refine w_getR (g_23_0 _) ?_
      refine w_callV0V (oj_24 _).choose_spec rfl (e_X4_passDay isT24 ok2 i1_2.2.1) ?_
      rintro t10 ⟨ok10, fq10, hp10_0, hp10_1, hp10_2⟩
      have fr10 := fr2.then fq10 (by simp)
      have bh2 : BHp t t10 12 ((i + 2) / 2).toNat := by
        rw [show ((i + 2) / 2).toNat = ((i + 1) / 2).toNat + 1 by omega]
        exact bh_s i1_2 hp10_2 hp10_0 fq10 (by simp) (by simp) (by simp)
      refine w_goto ?_
      refine w_step rfl ?_
      have bh2 : BHp t t10 12 ((i + 2) / 2).toNat := by first | exact bh2 | (rw [show ((i + 2) / 2).toNat = ((i + 1) / 2).toNat by omega]; exact i1_2) | omega
      refine w_iload rfl ?_
      refine w_push kc_2 ?_
      refine w_rem (by omega) ?_
      refine w_ine (by omega) (fun h => absurd h (by omega)) (fun _ => ?_)
      refine w_aload rfl ?_
      refine w_getR (g_23_0 _) ?_
      refine w_callV0I (oj_24 _).choose_spec rfl (e_X4_picture isT24 ok10) ?_
      rintro z11 t11 ⟨rfl, hp11_0, hp11_1, hp11_2⟩
      have hdu : z11 = dueF (pcX t 12) (mtX t 12) i := by
        unfold dueF
        rw [if_pos (by omega), hp11_2, show (i / 2 + 1).toNat = ((i + 2) / 2).toNat by omega]
        exact bh_pic bh2 ok10
      refine w_goto ?_
      refine w_step rfl ?_
      refine w_istore (lv' := [some (.ref 23), some (.ref 12), some (.int (jI n)), some (.ref 44), some (.int (jI m)), some (.int (jI i)), some (.int (jI z11))]) rfl ?_
      refine w_iload rfl ?_
      refine w_iload rfl ?_
      refine w_cge (by omega) (fun h12 => ?_) (fun h12 => ?_)
      · skip
        refine w_step rfl ?_
        refine w_iload rfl ?_
        refine w_retI rfl ?_
        exact ⟨ok10, fr10, (by omega), (by omega), (by first | exact ⟨_, ⟨i1_0, i1_1, i1_3, Or.inr (by omega)⟩, by rw [if_neg (by omega), if_neg (by omega)]⟩ | exact ⟨2 * n, ⟨by omega, by omega, fun k h1 h2 => i1_3 k h1 (by omega), Or.inl rfl⟩, by rw [if_neg (by omega), if_neg (by omega)]⟩ | exact ⟨2 * n, ⟨by omega, by omega, fun k h1 h2 => i1_3 k h1 (by omega), Or.inl rfl⟩, by rw [if_pos rfl, if_pos ⟨by have h9 := i1_3 (2 * n - 1); omega, rfl⟩]⟩)⟩
      refine w_aload rfl ?_
      refine w_iload rfl ?_
      refine w_iald (i := (i).toNat) (ai_44 _) (by omega) (by omega) (ae_44 _) ok10 (fun z13 hz13 hl13 hh13 => ?_)
      have hw : z13 = tA t 44 i.toNat := by rw [hz13, fr10.2.1 44 (by simp)]
      refine w_iload rfl ?_
      refine w_ceq (by omega) (fun h14 => ?_) (fun h14 => ?_)
      · skip
        refine w_step rfl ?_
        refine w_iinc (lv' := [some (.ref 23), some (.ref 12), some (.int (jI n)), some (.ref 44), some (.int (jI m)), some (.int (jI (i + 1))), some (.int (jI z11))]) kc_1 rfl rfl ?_
        refine w_goto ?_
        exact ih1 _ (i + 1) (some z11) t10 ok10 fr10 (by omega) (by omega) (by rw [show ((i + 1 + 1) / 2).toNat = ((i + 2) / 2).toNat by omega]; exact bh2) (fun k h1 h2 => (Int.lt_or_eq_of_le (show k ≤ i by omega)).elim (i1_3 k h1) (fun e => by rw [e]; exact ⟨by omega, by omega⟩)) (by omega) (by omega)
      refine w_goto ?_
      refine w_step rfl ?_
      refine w_iload rfl ?_
      refine w_retI rfl ?_
      exact ⟨ok10, fr10, (by omega), (by omega), (by first | exact ⟨_, ⟨i1_0, i1_1, i1_3, Or.inr (by omega)⟩, by rw [if_neg (by omega), if_neg (by omega)]⟩ | exact ⟨2 * n, ⟨by omega, by omega, fun k h1 h2 => i1_3 k h1 (by omega), Or.inl rfl⟩, by rw [if_neg (by omega), if_neg (by omega)]⟩ | exact ⟨2 * n, ⟨by omega, by omega, fun k h1 h2 => i1_3 k h1 (by omega), Or.inl rfl⟩, by rw [if_pos rfl, if_pos ⟨by have h9 := i1_3 (2 * n - 1); omega, rfl⟩]⟩)⟩
  exact key1 61 _ 0 none t1 ok1 fr1 (by omega) (by omega) bh (fun k h1 h2 => by omega) (by omega) (by omega)
end
section
theorem tn_dk {t u v : TS} {s k : Int} (h : DK t 1 (tI t 1 10)) (hs : 0 ≤ s) (e : u = uA t 2 s.toNat k) (f : Fr [(1 + 8, 100)] u v) (d : DNp u v 1 s.toNat 4) : DK v 1 (tI t 1 10) := by
  have kA : ∀ c i, ¬ (c = 2 ∧ i = s.toNat) → tA u c i = tA t c i := fun c i q => by rw [e, tA_uA, if_neg q]
  have dk : ∀ s2 r w : Nat, dkC v 1 s2 r w = dkC u 1 s2 r w := fun s2 r w => dkC_fr f (by simp) (by simp) (by simp) (by simp) (by simp) (by simp) s2 r w
  intro s2 r w h1 h2 h3
  by_cases q : s2 = s.toNat
  · subst q
    rw [d.1 r w h2 h3, dk]
  · rw [d.2 _ (by omega), dk, kA _ _ (by omega), h s2 r w h1 h2 h3]
    exact (dkC_mv (fun i => kA _ _ (by omega)) (by rw [e]; rfl) (fun i => by rw [e]; rfl) (by rw [e]; rfl) (kA _ _ (by omega)) (kA _ _ (by omega)) (kA _ _ (by omega)) r w).symm
theorem pu_1 {t u v : TS} {s p x : Int} (m4 : tA u (1 + 4) = upF (tA t (1 + 4)) s.toNat p) (f : Fr [(1 + 4, 100), (1 + 6, 100)] t u) (w : v = uA u 6 s.toNat x) : CP v 1 = (upF (tA t 5) s.toNat p, upF (tA t 6) s.toNat x) := by
  have e6 := funext (f.2.1 6 (by simp))
  unfold CP
  congr 1
  · rw [w]
    funext i
    rw [tA_uA, if_neg (by omega)]
    exact congrFun m4 i
  · rw [w]
    funext i
    rw [tA_uA]
    unfold upF
    by_cases q : i = s.toNat
    · rw [if_pos ⟨rfl, q⟩, if_pos q]
    · rw [if_neg (fun k => q k.2), if_neg q]
      exact congrFun e6 i
theorem pu_2 {t u v : TS} {s p x : Int} (h : HCt t 1) (m4 : tA u (1 + 4) = upF (tA t (1 + 4)) s.toNat p) (m6 : tA u (1 + 6) = mvH (tA t (1 + 6)) (tA t (1 + 4)) s.toNat p) (f : Fr [(1 + 4, 100), (1 + 6, 100)] t u) (w : v = uA u 6 s.toNat x) (hs : 0 ≤ s ∧ s ≤ tI t 1 10 - 1) (hp : 0 ≤ p) (hh : tA t 7 p.toNat = -1 ∨ tA t 7 p.toNat = s) : HCt v 1 := by
  have e4 : tA v (1 + 4) = tA u (1 + 4) := by rw [w]; funext i; rw [tA_uA, if_neg (by omega)]
  have e6 : tA v (1 + 6) = tA u (1 + 6) := by rw [w]; funext i; rw [tA_uA, if_neg (by omega)]
  have e10 : tI v 1 10 = tI t 1 10 := by rw [w, tI_uA]; exact f.1 _ _ (by simp)
  unfold HCt
  rw [e4, e6, m4, m6, e10]
  refine HC.mv h (by omega) hp (fun _ => ?_)
  rcases hh with q | q
  · exact Or.inl q
  · exact Or.inr (by rw [show 1 + 6 = 7 from rfl, q]; omega)
theorem pu_3 {t u : TS} {s : Int} (m4 : tA u (1 + 4) = upF (tA t (1 + 4)) s.toNat 12) (f : Fr [(1 + 4, 100), (1 + 6, 100)] t u) : CP u 1 = (upF (tA t 5) s.toNat 12, tA t 6) := by
  have e6 := funext (f.2.1 6 (by simp))
  unfold CP
  rw [m4]
  congr 1
theorem pu_4 {t u : TS} {s : Int} (h : HCt t 1) (m4 : tA u (1 + 4) = upF (tA t (1 + 4)) s.toNat 12) (m6 : tA u (1 + 6) = mvH (tA t (1 + 6)) (tA t (1 + 4)) s.toNat 12) (f : Fr [(1 + 4, 100), (1 + 6, 100)] t u) (hs : 0 ≤ s ∧ s ≤ tI t 1 10 - 1) : HCt u 1 := by
  have e10 : tI u 1 10 = tI t 1 10 := f.1 _ _ (by simp)
  unfold HCt
  rw [m4, m6, e10]
  exact HC.mv h (by omega) (by decide) (fun e => absurd e (by decide))
theorem dy_cn {t u : TS} {k : Nat} (g : GLp t u 1 (dysF (tI t 1 10).toNat (OC t 1) (tI t 1 12) (tI t 1 14) k (CP t 1))) : cnH (tA u (1 + 6)) 12 = cnX t 1 k := by
  obtain ⟨g1, g2, g3, g4⟩ := g
  rw [cnC g2, g4, g1]
  rfl
set_option maxRecDepth 100000 in
set_option maxHeartbeats 4000000 in
theorem e_X8_stone {d : Nat} {t : TS} {k l r : Int}  (ok : OK t) (q0 : GD t) (q1 : -2147483648 ≤ k) (q2 : k ≤ 2147483647) (q3 : -2147483648 ≤ l) (q4 : l ≤ 2147483647) (q5 : -2147483648 ≤ r) (q6 : r ≤ 2147483647) : CI (EX FU (d + 7)) 75 [.ref 0, .int (jI k), .int (jI l), .int (jI r)] (mk t) (fun z t' => OK t' ∧ Fr [(1, 10), (2, 100), (3, 100), (4, 100), (5, 100), (6, 100), (9, 100)] t t' ∧ (((¬ (0 ≤ k ∧ k ≤ 5 ∧ 0 ≤ l ∧ l ≤ 6 ∧ 0 ≤ r ∧ r ≤ 6)) ∧ z = (-1000000001) ∧ t' = t) ∨ ((0 ≤ k ∧ k ≤ 5 ∧ 0 ≤ l ∧ l ≤ 6 ∧ 0 ≤ r ∧ r ≤ 6) ∧ (tI t 1 10 = 12) ∧ z = (-1000000003) ∧ t' = t) ∨ ((0 ≤ k ∧ k ≤ 5 ∧ 0 ≤ l ∧ l ≤ 6 ∧ 0 ≤ r ∧ r ≤ 6) ∧ (tI t 1 10 < 12) ∧ z = tI t 1 10 ∧ (tI t' 1 10 = tI t 1 10 + 1) ∧ (∀ i, tA t' 2 i = if i = (tI t 1 10).toNat then k else tA t 2 i) ∧ (∀ i, tA t' 3 i = if i = (tI t 1 10).toNat then l else tA t 3 i) ∧ (∀ i, tA t' 4 i = if i = (tI t 1 10).toNat then r else tA t 4 i) ∧ (ASp t t' 1)))) := by
  refine CI_ent (d := d + 6) (Bk := bX8_stone) (nL := 4) rfl rfl rfl (Nat.le_of_ble_eq_true rfl) ?_
  show Rn _ 1000000 0 [some (.ref 0), some (.int (jI k)), some (.int (jI l)), some (.int (jI r))] [] _ _
  have fr : Fr [(1, 10), (2, 100), (3, 100), (4, 100), (5, 100), (6, 100), (9, 100)] t t := Fr.rf _ _
  have hn0 := (ok.f fe_1_10).1
  have hn1 := (ok.f fe_1_10).2
  refine w_step rfl ?_
  refine w_iload rfl ?_
  refine w_push kc_0 ?_
  refine w_push kc_5 ?_
  refine w_callS3I rfl (c_X8_within ok (by omega) (by omega) (by omega) (by omega) (by omega) (by omega)) ?_
  rintro z1 t1 ⟨rfl, hp1_0⟩
  rcases hp1_0 with ⟨rfl, hp1_0⟩ | ⟨rfl, hp1_0⟩
  · skip
    refine w_ieq (by omega) (fun _ => ?_) (fun h => absurd (by omega) h)
    refine w_step rfl ?_
    refine w_push kc_m1000000001 ?_
    refine w_retI rfl ?_
    exact ⟨ok, fr, (by first | (exact Or.inl ⟨by omega, by first | omega | (subst_vars; rfl), rfl⟩) | (exact Or.inr (Or.inl ⟨by omega, by omega, by first | omega | (subst_vars; rfl), rfl⟩)) | (exact Or.inr (Or.inr (⟨by omega, by omega, by first | omega | (subst_vars; rfl), e1, e2, e3, e4, e5⟩))))⟩
  refine w_ieq (by omega) (fun h => absurd h (by omega)) (fun _ => ?_)
  refine w_iload rfl ?_
  refine w_push kc_0 ?_
  refine w_push kc_6 ?_
  refine w_callS3I rfl (c_X8_within ok (by omega) (by omega) (by omega) (by omega) (by omega) (by omega)) ?_
  rintro z2 t2 ⟨rfl, hp2_0⟩
  rcases hp2_0 with ⟨rfl, hp2_0⟩ | ⟨rfl, hp2_0⟩
  · skip
    refine w_ieq (by omega) (fun _ => ?_) (fun h => absurd (by omega) h)
    refine w_step rfl ?_
    refine w_push kc_m1000000001 ?_
    refine w_retI rfl ?_
    exact ⟨ok, fr, (by first | (exact Or.inl ⟨by omega, by first | omega | (subst_vars; rfl), rfl⟩) | (exact Or.inr (Or.inl ⟨by omega, by omega, by first | omega | (subst_vars; rfl), rfl⟩)) | (exact Or.inr (Or.inr (⟨by omega, by omega, by first | omega | (subst_vars; rfl), e1, e2, e3, e4, e5⟩))))⟩
  refine w_ieq (by omega) (fun h => absurd h (by omega)) (fun _ => ?_)
  refine w_iload rfl ?_
  refine w_push kc_0 ?_
  refine w_push kc_6 ?_
  refine w_callS3I rfl (c_X8_within ok (by omega) (by omega) (by omega) (by omega) (by omega) (by omega)) ?_
  rintro z3 t3 ⟨rfl, hp3_0⟩
  rcases hp3_0 with ⟨rfl, hp3_0⟩ | ⟨rfl, hp3_0⟩
  · skip
    refine w_ine (by omega) (fun h => absurd h (by omega)) (fun _ => ?_)
    refine w_goto ?_
    refine w_step rfl ?_
    refine w_push kc_m1000000001 ?_
    refine w_retI rfl ?_
    exact ⟨ok, fr, (by first | (exact Or.inl ⟨by omega, by first | omega | (subst_vars; rfl), rfl⟩) | (exact Or.inr (Or.inl ⟨by omega, by omega, by first | omega | (subst_vars; rfl), rfl⟩)) | (exact Or.inr (Or.inr (⟨by omega, by omega, by first | omega | (subst_vars; rfl), e1, e2, e3, e4, e5⟩))))⟩
  refine w_ine (by omega) (fun _ => ?_) (fun h => absurd (by omega) h)
  refine w_step rfl ?_
  refine w_aload rfl ?_
  refine w_getR (g_0_0 _) ?_
  refine w_getI (g_1_10 _) fe_1_10 ok (fun z4 hz4 hl4 hh4 => ?_)
  refine w_push kc_12 ?_
  refine w_clt (by omega) (fun h5 => ?_) (fun h5 => ?_)
  · skip
    refine w_step rfl ?_
    refine w_aload rfl ?_
    refine w_getR (g_0_0 _) ?_
    refine w_iload rfl ?_
    refine w_iload rfl ?_
    refine w_iload rfl ?_
    refine w_callV3I (oj_1 _).choose_spec rfl (e_X4_addStone isT1 ok (GD.fr q0 fr) (by omega) (by omega) (by omega) (by omega) (by omega) (by omega) (by omega)) ?_
    rintro z6 t6 ⟨ok6, fq6, hp6_0, hp6_1, hp6_2, hp6_3, hp6_4, hp6_5⟩
    have fr6 := fr.then fq6 (by simp)
    have e1 := hp6_1
    have e2 := hp6_2
    have e3 := hp6_3
    have e4 := hp6_4
    have e5 := hp6_5
    refine w_retI rfl ?_
    exact ⟨ok6, fr6, (by first | (exact Or.inl ⟨by omega, by first | omega | (subst_vars; rfl), rfl⟩) | (exact Or.inr (Or.inl ⟨by omega, by omega, by first | omega | (subst_vars; rfl), rfl⟩)) | (exact Or.inr (Or.inr (⟨by omega, by omega, by first | omega | (subst_vars; rfl), e1, e2, e3, e4, e5⟩))))⟩
  refine w_push kc_m1000000003 ?_
  refine w_retI rfl ?_
  exact ⟨ok, fr, (by first | (exact Or.inl ⟨by omega, by first | omega | (subst_vars; rfl), rfl⟩) | (exact Or.inr (Or.inl ⟨by omega, by omega, by first | omega | (subst_vars; rfl), rfl⟩)) | (exact Or.inr (Or.inr (⟨by omega, by omega, by first | omega | (subst_vars; rfl), e1, e2, e3, e4, e5⟩))))⟩
set_option maxRecDepth 100000 in
set_option maxHeartbeats 4000000 in
theorem e_X8_told {d : Nat} {t : TS} {s w : Int}  (ok : OK t) (q0 : -2147483648 ≤ s) (q1 : s ≤ 2147483647) (q2 : -2147483648 ≤ w) (q3 : w ≤ 2147483647) : CI (EX FU (d + 3)) 76 [.ref 0, .int (jI s), .int (jI w)] (mk t) (fun z t' => t = t' ∧ (((¬ (0 ≤ s ∧ s ≤ tI t 1 10 - 1) ∨ ¬ (0 ≤ w ∧ w ≤ 6)) ∧ z = (-1000000001)) ∨ ((0 ≤ s ∧ s ≤ tI t 1 10 - 1) ∧ (w = 0) ∧ z = tA t 2 s.toNat) ∨ ((0 ≤ s ∧ s ≤ tI t 1 10 - 1) ∧ (w = 1) ∧ z = tA t 3 s.toNat) ∨ ((0 ≤ s ∧ s ≤ tI t 1 10 - 1) ∧ (w = 2) ∧ z = tA t 4 s.toNat) ∨ ((0 ≤ s ∧ s ≤ tI t 1 10 - 1) ∧ (w = 3) ∧ z = tA t 5 s.toNat) ∨ ((0 ≤ s ∧ s ≤ tI t 1 10 - 1) ∧ (w = 4) ∧ z = tA t 6 s.toNat) ∨ ((0 ≤ s ∧ s ≤ tI t 1 10 - 1) ∧ (w = 5) ∧ z = hvF (tA t 2 s.toNat) (tA t 3 s.toNat) (tA t 4 s.toNat)) ∨ ((0 ≤ s ∧ s ≤ tI t 1 10 - 1) ∧ (w = 6) ∧ z = woF (tA t 2 s.toNat) (tA t 3 s.toNat) (tA t 4 s.toNat)))) := by
  refine CI_ent (d := d + 2) (Bk := bX8_told) (nL := 3) rfl rfl rfl (Nat.le_of_ble_eq_true rfl) ?_
  show Rn _ 1000000 0 [some (.ref 0), some (.int (jI s)), some (.int (jI w))] [] _ _
  have hn0 := (ok.f fe_1_10).1
  have hn1 := (ok.f fe_1_10).2
  refine w_step rfl ?_
  refine w_aload rfl ?_
  refine w_iload rfl ?_
  refine w_callV1I (oj_0 _).choose_spec rfl (c_X8_isStone ok (by omega) (by omega)) ?_
  rintro z1 t1 ⟨rfl, hp1_0⟩
  rcases hp1_0 with ⟨rfl, hp1_0⟩ | ⟨rfl, hp1_0⟩
  · skip
    refine w_ine (by omega) (fun h => absurd h (by omega)) (fun _ => ?_)
    refine w_push kc_m1000000001 ?_
    refine w_retI rfl ?_
    exact ⟨rfl, (by first | (exact Or.inl ⟨by omega, by first | omega | (subst_vars; rfl)⟩) | (exact Or.inr (Or.inl ⟨by omega, by omega, by first | omega | (subst_vars; rfl)⟩)) | (exact Or.inr (Or.inr (Or.inl ⟨by omega, by omega, by first | omega | (subst_vars; rfl)⟩))) | (exact Or.inr (Or.inr (Or.inr (Or.inl ⟨by omega, by omega, by first | omega | (subst_vars; rfl)⟩)))) | (exact Or.inr (Or.inr (Or.inr (Or.inr (Or.inl ⟨by omega, by omega, by first | omega | (subst_vars; rfl)⟩))))) | (exact Or.inr (Or.inr (Or.inr (Or.inr (Or.inr (Or.inl ⟨by omega, by omega, by first | omega | (subst_vars; rfl)⟩)))))) | (exact Or.inr (Or.inr (Or.inr (Or.inr (Or.inr (Or.inr (Or.inl ⟨by omega, by omega, by first | omega | (subst_vars; rfl)⟩))))))) | (exact Or.inr (Or.inr (Or.inr (Or.inr (Or.inr (Or.inr (Or.inr (⟨by omega, by omega, by first | omega | (subst_vars; rfl)⟩)))))))))⟩
  refine w_ine (by omega) (fun _ => ?_) (fun h => absurd (by omega) h)
  refine w_step rfl ?_
  refine w_iload rfl ?_
  have hs2 : w = 0 ∨ w = 1 ∨ w = 2 ∨ w = 3 ∨ w = 4 ∨ w = 5 ∨ w = 6 ∨ (w < 0 ∨ 0 + 7 ≤ w) := (by omega)
  rcases hs2 with hs2 | hs2 | hs2 | hs2 | hs2 | hs2 | hs2 | hs2
  · refine w_sw (n := 2) (tsw_at hs2 (by decide)) ?_
    refine w_step rfl ?_
    refine w_aload rfl ?_
    refine w_getR (g_0_0 _) ?_
    refine w_getR (g_1_0 _) ?_
    refine w_iload rfl ?_
    refine w_iald (i := (s).toNat) (ai_2 _) (by omega) (by omega) (ae_2 _) ok (fun z3 hz3 hl3 hh3 => ?_)
    refine w_retI rfl ?_
    exact ⟨rfl, (by first | (exact Or.inl ⟨by omega, by first | omega | (subst_vars; rfl)⟩) | (exact Or.inr (Or.inl ⟨by omega, by omega, by first | omega | (subst_vars; rfl)⟩)) | (exact Or.inr (Or.inr (Or.inl ⟨by omega, by omega, by first | omega | (subst_vars; rfl)⟩))) | (exact Or.inr (Or.inr (Or.inr (Or.inl ⟨by omega, by omega, by first | omega | (subst_vars; rfl)⟩)))) | (exact Or.inr (Or.inr (Or.inr (Or.inr (Or.inl ⟨by omega, by omega, by first | omega | (subst_vars; rfl)⟩))))) | (exact Or.inr (Or.inr (Or.inr (Or.inr (Or.inr (Or.inl ⟨by omega, by omega, by first | omega | (subst_vars; rfl)⟩)))))) | (exact Or.inr (Or.inr (Or.inr (Or.inr (Or.inr (Or.inr (Or.inl ⟨by omega, by omega, by first | omega | (subst_vars; rfl)⟩))))))) | (exact Or.inr (Or.inr (Or.inr (Or.inr (Or.inr (Or.inr (Or.inr (⟨by omega, by omega, by first | omega | (subst_vars; rfl)⟩)))))))))⟩
  · refine w_sw (n := 3) (tsw_at hs2 (by decide)) ?_
    refine w_step rfl ?_
    refine w_aload rfl ?_
    refine w_getR (g_0_0 _) ?_
    refine w_getR (g_1_1 _) ?_
    refine w_iload rfl ?_
    refine w_iald (i := (s).toNat) (ai_3 _) (by omega) (by omega) (ae_3 _) ok (fun z4 hz4 hl4 hh4 => ?_)
    refine w_retI rfl ?_
    exact ⟨rfl, (by first | (exact Or.inl ⟨by omega, by first | omega | (subst_vars; rfl)⟩) | (exact Or.inr (Or.inl ⟨by omega, by omega, by first | omega | (subst_vars; rfl)⟩)) | (exact Or.inr (Or.inr (Or.inl ⟨by omega, by omega, by first | omega | (subst_vars; rfl)⟩))) | (exact Or.inr (Or.inr (Or.inr (Or.inl ⟨by omega, by omega, by first | omega | (subst_vars; rfl)⟩)))) | (exact Or.inr (Or.inr (Or.inr (Or.inr (Or.inl ⟨by omega, by omega, by first | omega | (subst_vars; rfl)⟩))))) | (exact Or.inr (Or.inr (Or.inr (Or.inr (Or.inr (Or.inl ⟨by omega, by omega, by first | omega | (subst_vars; rfl)⟩)))))) | (exact Or.inr (Or.inr (Or.inr (Or.inr (Or.inr (Or.inr (Or.inl ⟨by omega, by omega, by first | omega | (subst_vars; rfl)⟩))))))) | (exact Or.inr (Or.inr (Or.inr (Or.inr (Or.inr (Or.inr (Or.inr (⟨by omega, by omega, by first | omega | (subst_vars; rfl)⟩)))))))))⟩
  · refine w_sw (n := 4) (tsw_at hs2 (by decide)) ?_
    refine w_step rfl ?_
    refine w_aload rfl ?_
    refine w_getR (g_0_0 _) ?_
    refine w_getR (g_1_2 _) ?_
    refine w_iload rfl ?_
    refine w_iald (i := (s).toNat) (ai_4 _) (by omega) (by omega) (ae_4 _) ok (fun z5 hz5 hl5 hh5 => ?_)
    refine w_retI rfl ?_
    exact ⟨rfl, (by first | (exact Or.inl ⟨by omega, by first | omega | (subst_vars; rfl)⟩) | (exact Or.inr (Or.inl ⟨by omega, by omega, by first | omega | (subst_vars; rfl)⟩)) | (exact Or.inr (Or.inr (Or.inl ⟨by omega, by omega, by first | omega | (subst_vars; rfl)⟩))) | (exact Or.inr (Or.inr (Or.inr (Or.inl ⟨by omega, by omega, by first | omega | (subst_vars; rfl)⟩)))) | (exact Or.inr (Or.inr (Or.inr (Or.inr (Or.inl ⟨by omega, by omega, by first | omega | (subst_vars; rfl)⟩))))) | (exact Or.inr (Or.inr (Or.inr (Or.inr (Or.inr (Or.inl ⟨by omega, by omega, by first | omega | (subst_vars; rfl)⟩)))))) | (exact Or.inr (Or.inr (Or.inr (Or.inr (Or.inr (Or.inr (Or.inl ⟨by omega, by omega, by first | omega | (subst_vars; rfl)⟩))))))) | (exact Or.inr (Or.inr (Or.inr (Or.inr (Or.inr (Or.inr (Or.inr (⟨by omega, by omega, by first | omega | (subst_vars; rfl)⟩)))))))))⟩
  · refine w_sw (n := 5) (tsw_at hs2 (by decide)) ?_
    refine w_step rfl ?_
    refine w_aload rfl ?_
    refine w_getR (g_0_0 _) ?_
    refine w_getR (g_1_3 _) ?_
    refine w_iload rfl ?_
    refine w_iald (i := (s).toNat) (ai_5 _) (by omega) (by omega) (ae_5 _) ok (fun z6 hz6 hl6 hh6 => ?_)
    refine w_retI rfl ?_
    exact ⟨rfl, (by first | (exact Or.inl ⟨by omega, by first | omega | (subst_vars; rfl)⟩) | (exact Or.inr (Or.inl ⟨by omega, by omega, by first | omega | (subst_vars; rfl)⟩)) | (exact Or.inr (Or.inr (Or.inl ⟨by omega, by omega, by first | omega | (subst_vars; rfl)⟩))) | (exact Or.inr (Or.inr (Or.inr (Or.inl ⟨by omega, by omega, by first | omega | (subst_vars; rfl)⟩)))) | (exact Or.inr (Or.inr (Or.inr (Or.inr (Or.inl ⟨by omega, by omega, by first | omega | (subst_vars; rfl)⟩))))) | (exact Or.inr (Or.inr (Or.inr (Or.inr (Or.inr (Or.inl ⟨by omega, by omega, by first | omega | (subst_vars; rfl)⟩)))))) | (exact Or.inr (Or.inr (Or.inr (Or.inr (Or.inr (Or.inr (Or.inl ⟨by omega, by omega, by first | omega | (subst_vars; rfl)⟩))))))) | (exact Or.inr (Or.inr (Or.inr (Or.inr (Or.inr (Or.inr (Or.inr (⟨by omega, by omega, by first | omega | (subst_vars; rfl)⟩)))))))))⟩
  · refine w_sw (n := 6) (tsw_at hs2 (by decide)) ?_
    refine w_step rfl ?_
    refine w_aload rfl ?_
    refine w_getR (g_0_0 _) ?_
    refine w_getR (g_1_4 _) ?_
    refine w_iload rfl ?_
    refine w_iald (i := (s).toNat) (ai_6 _) (by omega) (by omega) (ae_6 _) ok (fun z7 hz7 hl7 hh7 => ?_)
    refine w_retI rfl ?_
    exact ⟨rfl, (by first | (exact Or.inl ⟨by omega, by first | omega | (subst_vars; rfl)⟩) | (exact Or.inr (Or.inl ⟨by omega, by omega, by first | omega | (subst_vars; rfl)⟩)) | (exact Or.inr (Or.inr (Or.inl ⟨by omega, by omega, by first | omega | (subst_vars; rfl)⟩))) | (exact Or.inr (Or.inr (Or.inr (Or.inl ⟨by omega, by omega, by first | omega | (subst_vars; rfl)⟩)))) | (exact Or.inr (Or.inr (Or.inr (Or.inr (Or.inl ⟨by omega, by omega, by first | omega | (subst_vars; rfl)⟩))))) | (exact Or.inr (Or.inr (Or.inr (Or.inr (Or.inr (Or.inl ⟨by omega, by omega, by first | omega | (subst_vars; rfl)⟩)))))) | (exact Or.inr (Or.inr (Or.inr (Or.inr (Or.inr (Or.inr (Or.inl ⟨by omega, by omega, by first | omega | (subst_vars; rfl)⟩))))))) | (exact Or.inr (Or.inr (Or.inr (Or.inr (Or.inr (Or.inr (Or.inr (⟨by omega, by omega, by first | omega | (subst_vars; rfl)⟩)))))))))⟩
  · refine w_sw (n := 7) (tsw_at hs2 (by decide)) ?_
    refine w_step rfl ?_
    refine w_aload rfl ?_
    refine w_getR (g_0_0 _) ?_
    refine w_iload rfl ?_
    refine w_callV1I (oj_1 _).choose_spec rfl (c_X4_heavy isT1 ok (by omega) (by omega)) ?_
    rintro z8 t8 ⟨rfl, hp8_0, hp8_1, hp8_2⟩
    refine w_retI rfl ?_
    exact ⟨rfl, (by first | (exact Or.inl ⟨by omega, by first | omega | (subst_vars; rfl)⟩) | (exact Or.inr (Or.inl ⟨by omega, by omega, by first | omega | (subst_vars; rfl)⟩)) | (exact Or.inr (Or.inr (Or.inl ⟨by omega, by omega, by first | omega | (subst_vars; rfl)⟩))) | (exact Or.inr (Or.inr (Or.inr (Or.inl ⟨by omega, by omega, by first | omega | (subst_vars; rfl)⟩)))) | (exact Or.inr (Or.inr (Or.inr (Or.inr (Or.inl ⟨by omega, by omega, by first | omega | (subst_vars; rfl)⟩))))) | (exact Or.inr (Or.inr (Or.inr (Or.inr (Or.inr (Or.inl ⟨by omega, by omega, by first | omega | (subst_vars; rfl)⟩)))))) | (exact Or.inr (Or.inr (Or.inr (Or.inr (Or.inr (Or.inr (Or.inl ⟨by omega, by omega, by first | omega | (subst_vars; rfl)⟩))))))) | (exact Or.inr (Or.inr (Or.inr (Or.inr (Or.inr (Or.inr (Or.inr (⟨by omega, by omega, by first | omega | (subst_vars; rfl)⟩)))))))))⟩
  · refine w_sw (n := 8) (tsw_at hs2 (by decide)) ?_
    refine w_step rfl ?_
    refine w_aload rfl ?_
    refine w_getR (g_0_0 _) ?_
    refine w_getR (g_1_0 _) ?_
    refine w_iload rfl ?_
    refine w_iald (i := (s).toNat) (ai_2 _) (by omega) (by omega) (ae_2 _) ok (fun z9 hz9 hl9 hh9 => ?_)
    refine w_aload rfl ?_
    refine w_getR (g_0_0 _) ?_
    refine w_getR (g_1_1 _) ?_
    refine w_iload rfl ?_
    refine w_iald (i := (s).toNat) (ai_3 _) (by omega) (by omega) (ae_3 _) ok (fun z10 hz10 hl10 hh10 => ?_)
    refine w_aload rfl ?_
    refine w_getR (g_0_0 _) ?_
    refine w_getR (g_1_2 _) ?_
    refine w_iload rfl ?_
    refine w_iald (i := (s).toNat) (ai_4 _) (by omega) (by omega) (ae_4 _) ok (fun z11 hz11 hl11 hh11 => ?_)
    refine w_callS3I rfl (c_X0_worth ok (by omega) (by omega) (by omega) (by omega) (by omega) (by omega)) ?_
    rintro z12 t12 ⟨rfl, hp12_0, hp12_1, hp12_2⟩
    refine w_retI rfl ?_
    exact ⟨rfl, (by first | (exact Or.inl ⟨by omega, by first | omega | (subst_vars; rfl)⟩) | (exact Or.inr (Or.inl ⟨by omega, by omega, by first | omega | (subst_vars; rfl)⟩)) | (exact Or.inr (Or.inr (Or.inl ⟨by omega, by omega, by first | omega | (subst_vars; rfl)⟩))) | (exact Or.inr (Or.inr (Or.inr (Or.inl ⟨by omega, by omega, by first | omega | (subst_vars; rfl)⟩)))) | (exact Or.inr (Or.inr (Or.inr (Or.inr (Or.inl ⟨by omega, by omega, by first | omega | (subst_vars; rfl)⟩))))) | (exact Or.inr (Or.inr (Or.inr (Or.inr (Or.inr (Or.inl ⟨by omega, by omega, by first | omega | (subst_vars; rfl)⟩)))))) | (exact Or.inr (Or.inr (Or.inr (Or.inr (Or.inr (Or.inr (Or.inl ⟨by omega, by omega, by first | omega | (subst_vars; rfl)⟩))))))) | (exact Or.inr (Or.inr (Or.inr (Or.inr (Or.inr (Or.inr (Or.inr (⟨by omega, by omega, by first | omega | (subst_vars; rfl)⟩)))))))))⟩
  · refine w_sw (n := 9) (tsw_df (m := 7) rfl (by omega) (by omega)) ?_
    refine w_step rfl ?_
    refine w_push kc_m1000000001 ?_
    refine w_retI rfl ?_
    exact ⟨rfl, (by first | (exact Or.inl ⟨by omega, by first | omega | (subst_vars; rfl)⟩) | (exact Or.inr (Or.inl ⟨by omega, by omega, by first | omega | (subst_vars; rfl)⟩)) | (exact Or.inr (Or.inr (Or.inl ⟨by omega, by omega, by first | omega | (subst_vars; rfl)⟩))) | (exact Or.inr (Or.inr (Or.inr (Or.inl ⟨by omega, by omega, by first | omega | (subst_vars; rfl)⟩)))) | (exact Or.inr (Or.inr (Or.inr (Or.inr (Or.inl ⟨by omega, by omega, by first | omega | (subst_vars; rfl)⟩))))) | (exact Or.inr (Or.inr (Or.inr (Or.inr (Or.inr (Or.inl ⟨by omega, by omega, by first | omega | (subst_vars; rfl)⟩)))))) | (exact Or.inr (Or.inr (Or.inr (Or.inr (Or.inr (Or.inr (Or.inl ⟨by omega, by omega, by first | omega | (subst_vars; rfl)⟩))))))) | (exact Or.inr (Or.inr (Or.inr (Or.inr (Or.inr (Or.inr (Or.inr (⟨by omega, by omega, by first | omega | (subst_vars; rfl)⟩)))))))))⟩
set_option maxRecDepth 100000 in
set_option maxHeartbeats 4000000 in
theorem e_X8_off {d : Nat} {t : TS} {s p u : Int}  (ok : OK t) (q0 : -2147483648 ≤ s) (q1 : s ≤ 2147483647) (q2 : -2147483648 ≤ p) (q3 : p ≤ 2147483647) (q4 : -2147483648 ≤ u) (q5 : u ≤ 2147483647) : CI (EX FU (d + 3)) 77 [.ref 0, .int (jI s), .int (jI p), .int (jI u)] (mk t) (fun z t' => t = t' ∧ (((¬ (0 ≤ s ∧ s ≤ tI t 1 10 - 1 ∧ 0 ≤ p ∧ p ≤ 11 ∧ 0 ≤ u ∧ u ≤ 1)) ∧ z = (-1000000001)) ∨ ((0 ≤ s ∧ s ≤ tI t 1 10 - 1 ∧ 0 ≤ p ∧ p ≤ 11 ∧ 0 ≤ u ∧ u ≤ 1) ∧ z = OC t 1 s.toNat p.toNat u.toNat))) := by
  refine CI_ent (d := d + 2) (Bk := bX8_off) (nL := 4) rfl rfl rfl (Nat.le_of_ble_eq_true rfl) ?_
  show Rn _ 1000000 0 [some (.ref 0), some (.int (jI s)), some (.int (jI p)), some (.int (jI u))] [] _ _
  have hn0 := (ok.f fe_1_10).1
  have hn1 := (ok.f fe_1_10).2
  refine w_step rfl ?_
  refine w_aload rfl ?_
  refine w_iload rfl ?_
  refine w_callV1I (oj_0 _).choose_spec rfl (c_X8_isStone ok (by omega) (by omega)) ?_
  rintro z1 t1 ⟨rfl, hp1_0⟩
  rcases hp1_0 with ⟨rfl, hp1_0⟩ | ⟨rfl, hp1_0⟩
  · skip
    refine w_ieq (by omega) (fun _ => ?_) (fun h => absurd (by omega) h)
    refine w_step rfl ?_
    refine w_push kc_m1000000001 ?_
    refine w_retI rfl ?_
    exact ⟨rfl, (by first | (exact Or.inl ⟨by omega, by first | omega | (subst_vars; rfl)⟩) | (exact Or.inr (⟨by omega, by omega⟩)))⟩
  refine w_ieq (by omega) (fun h => absurd h (by omega)) (fun _ => ?_)
  refine w_iload rfl ?_
  refine w_callS1I rfl (c_X8_isPlace ok (by omega) (by omega)) ?_
  rintro z2 t2 ⟨rfl, hp2_0⟩
  rcases hp2_0 with ⟨rfl, hp2_0⟩ | ⟨rfl, hp2_0⟩
  · skip
    refine w_ieq (by omega) (fun _ => ?_) (fun h => absurd (by omega) h)
    refine w_step rfl ?_
    refine w_push kc_m1000000001 ?_
    refine w_retI rfl ?_
    exact ⟨rfl, (by first | (exact Or.inl ⟨by omega, by first | omega | (subst_vars; rfl)⟩) | (exact Or.inr (⟨by omega, by omega⟩)))⟩
  refine w_ieq (by omega) (fun h => absurd h (by omega)) (fun _ => ?_)
  refine w_iload rfl ?_
  refine w_push kc_0 ?_
  refine w_push kc_1 ?_
  refine w_callS3I rfl (c_X8_within ok (by omega) (by omega) (by omega) (by omega) (by omega) (by omega)) ?_
  rintro z3 t3 ⟨rfl, hp3_0⟩
  rcases hp3_0 with ⟨rfl, hp3_0⟩ | ⟨rfl, hp3_0⟩
  · skip
    refine w_ine (by omega) (fun h => absurd h (by omega)) (fun _ => ?_)
    refine w_goto ?_
    refine w_step rfl ?_
    refine w_push kc_m1000000001 ?_
    refine w_retI rfl ?_
    exact ⟨rfl, (by first | (exact Or.inl ⟨by omega, by first | omega | (subst_vars; rfl)⟩) | (exact Or.inr (⟨by omega, by omega⟩)))⟩
  refine w_ine (by omega) (fun _ => ?_) (fun h => absurd (by omega) h)
  refine w_step rfl ?_
  refine w_aload rfl ?_
  refine w_getR (g_0_0 _) ?_
  refine w_iload rfl ?_
  refine w_iload rfl ?_
  refine w_iload rfl ?_
  refine w_callV3I (oj_1 _).choose_spec rfl (e_X4_offAt isT1 ok (by omega) (by omega) (by omega) (by omega) (by omega) (by omega)) ?_
  rintro z4 t4 ⟨rfl, hp4_0, hp4_1, hp4_2⟩
  refine w_retI rfl ?_
  exact ⟨rfl, (by first | (exact Or.inl ⟨by omega, by first | omega | (subst_vars; rfl)⟩) | (exact Or.inr (⟨by omega, by omega⟩)))⟩
set_option maxRecDepth 100000 in
set_option maxHeartbeats 4000000 in
theorem e_X8_turns {d : Nat} {t : TS} {s k : Int}  (ok : OK t) (q0 : GD t) (q1 : DK t 1 (tI t 1 10)) (q2 : -2147483648 ≤ s) (q3 : s ≤ 2147483647) (q4 : -2147483648 ≤ k) (q5 : k ≤ 2147483647) : CI (EX FU (d + 6)) 79 [.ref 0, .int (jI s), .int (jI k)] (mk t) (fun z t' => OK t' ∧ Fr [(2, 100), (9, 100)] t t' ∧ (((¬ (0 ≤ s ∧ s ≤ tI t 1 10 - 1 ∧ 0 ≤ k ∧ k ≤ 5)) ∧ z = (-1000000001) ∧ t' = t) ∨ ((0 ≤ s ∧ s ≤ tI t 1 10 - 1 ∧ 0 ≤ k ∧ k ≤ 5) ∧ z = tA t 2 s.toNat ∧ (∀ i, tA t' 2 i = if i = s.toNat then k else tA t 2 i) ∧ (DK t' 1 (tI t 1 10))))) := by
  refine CI_ent (d := d + 5) (Bk := bX8_turns) (nL := 4) rfl rfl rfl (Nat.le_of_ble_eq_true rfl) ?_
  show Rn _ 1000000 0 [some (.ref 0), some (.int (jI s)), some (.int (jI k)), none] [] _ _
  have fr : Fr [(2, 100), (9, 100)] t t := Fr.rf _ _
  have hn0 := (ok.f fe_1_10).1
  have hn1 := (ok.f fe_1_10).2
  refine w_step rfl ?_
  refine w_aload rfl ?_
  refine w_iload rfl ?_
  refine w_callV1I (oj_0 _).choose_spec rfl (c_X8_isStone ok (by omega) (by omega)) ?_
  rintro z1 t1 ⟨rfl, hp1_0⟩
  rcases hp1_0 with ⟨rfl, hp1_0⟩ | ⟨rfl, hp1_0⟩
  · skip
    refine w_ieq (by omega) (fun _ => ?_) (fun h => absurd (by omega) h)
    refine w_step rfl ?_
    refine w_push kc_m1000000001 ?_
    refine w_retI rfl ?_
    exact ⟨ok, fr, (by first | (exact Or.inl ⟨by omega, by first | omega | (subst_vars; rfl), rfl⟩) | (exact Or.inr (⟨by omega, by first | omega | (subst_vars; rfl), by intro i; rw [e2.2.1 2 (by simp) i, e1, tA_uA]; simp, tn_dk q1 (by omega) e1 e2 e3⟩)))⟩
  refine w_ieq (by omega) (fun h => absurd h (by omega)) (fun _ => ?_)
  refine w_iload rfl ?_
  refine w_push kc_0 ?_
  refine w_push kc_5 ?_
  refine w_callS3I rfl (c_X8_within ok (by omega) (by omega) (by omega) (by omega) (by omega) (by omega)) ?_
  rintro z2 t2 ⟨rfl, hp2_0⟩
  rcases hp2_0 with ⟨rfl, hp2_0⟩ | ⟨rfl, hp2_0⟩
  · skip
    refine w_ine (by omega) (fun h => absurd h (by omega)) (fun _ => ?_)
    refine w_goto ?_
    refine w_step rfl ?_
    refine w_push kc_m1000000001 ?_
    refine w_retI rfl ?_
    exact ⟨ok, fr, (by first | (exact Or.inl ⟨by omega, by first | omega | (subst_vars; rfl), rfl⟩) | (exact Or.inr (⟨by omega, by first | omega | (subst_vars; rfl), by intro i; rw [e2.2.1 2 (by simp) i, e1, tA_uA]; simp, tn_dk q1 (by omega) e1 e2 e3⟩)))⟩
  refine w_ine (by omega) (fun _ => ?_) (fun h => absurd (by omega) h)
  refine w_step rfl ?_
  refine w_aload rfl ?_
  refine w_getR (g_0_0 _) ?_
  refine w_getR (g_1_0 _) ?_
  refine w_iload rfl ?_
  refine w_iald (i := (s).toNat) (ai_2 _) (by omega) (by omega) (ae_2 _) ok (fun z3 hz3 hl3 hh3 => ?_)
  refine w_istore (lv' := [some (.ref 0), some (.int (jI s)), some (.int (jI k)), some (.int (jI z3))]) rfl ?_
  refine w_aload rfl ?_
  refine w_getR (g_0_0 _) ?_
  refine w_getR (g_1_0 _) ?_
  refine w_iload rfl ?_
  refine w_iload rfl ?_
  refine w_iast (i := (s).toNat) (ai_2 _) rfl (by omega) (by omega) (ae_2 _) ok (by omega) (fun t4 ht4 ok4 => ?_)
  have fr4 := fr.uA ht4 (by simp)
  have e1 := ht4
  refine w_aload rfl ?_
  refine w_getR (g_0_0 _) ?_
  refine w_iload rfl ?_
  refine w_callV1V (oj_1 _).choose_spec rfl (e_X4_darken isT1 ok4 (GD.fr q0 fr4) (by omega) (by omega)) ?_
  rintro t5 ⟨ok5, fq5, hp5_0⟩
  have fr5 := fr4.then fq5 (by simp)
  have e2 := fq5
  have e3 := hp5_0
  refine w_iload rfl ?_
  refine w_retI rfl ?_
  exact ⟨ok5, fr5, (by first | (exact Or.inl ⟨by omega, by first | omega | (subst_vars; rfl), rfl⟩) | (exact Or.inr (⟨by omega, by first | omega | (subst_vars; rfl), by intro i; rw [e2.2.1 2 (by simp) i, e1, tA_uA]; simp, tn_dk q1 (by omega) e1 e2 e3⟩)))⟩
set_option maxRecDepth 100000 in
set_option maxHeartbeats 4000000 in
theorem e_X8_put {d : Nat} {t : TS} {s p u : Int}  (ok : OK t) (q0 : HCt t 1) (q1 : -2147483648 ≤ s) (q2 : s ≤ 2147483647) (q3 : -2147483648 ≤ p) (q4 : p ≤ 2147483647) (q5 : -2147483648 ≤ u) (q6 : u ≤ 2147483647) : CI (EX FU (d + 3)) 80 [.ref 0, .int (jI s), .int (jI p), .int (jI u)] (mk t) (fun z t' => OK t' ∧ Fr [(5, 100), (6, 100), (7, 100)] t t' ∧ (((¬ (0 ≤ s ∧ s ≤ tI t 1 10 - 1 ∧ 0 ≤ p ∧ p ≤ 11 ∧ 0 ≤ u ∧ u ≤ 1)) ∧ z = (-1000000001) ∧ t' = t) ∨ ((0 ≤ s ∧ s ≤ tI t 1 10 - 1 ∧ 0 ≤ p ∧ p ≤ 11 ∧ 0 ≤ u ∧ u ≤ 1) ∧ (¬ tA t 7 p.toNat = -1) ∧ (¬ tA t 7 p.toNat = s) ∧ z = (-1000000002) ∧ t' = t) ∨ ((0 ≤ s ∧ s ≤ tI t 1 10 - 1 ∧ 0 ≤ p ∧ p ≤ 11 ∧ 0 ≤ u ∧ u ≤ 1) ∧ (tA t 7 p.toNat = -1 ∨ tA t 7 p.toNat = s) ∧ z = tA t 5 s.toNat ∧ (CP t' 1 = (upF (tA t 5) s.toNat p, upF (tA t 6) s.toNat u)) ∧ (HCt t' 1)))) := by
  refine CI_ent (d := d + 2) (Bk := bX8_put) (nL := 5) rfl rfl rfl (Nat.le_of_ble_eq_true rfl) ?_
  show Rn _ 1000000 0 [some (.ref 0), some (.int (jI s)), some (.int (jI p)), some (.int (jI u)), none] [] _ _
  have fr : Fr [(5, 100), (6, 100), (7, 100)] t t := Fr.rf _ _
  have hn0 := (ok.f fe_1_10).1
  have hn1 := (ok.f fe_1_10).2
  refine w_step rfl ?_
  refine w_aload rfl ?_
  refine w_iload rfl ?_
  refine w_callV1I (oj_0 _).choose_spec rfl (c_X8_isStone ok (by omega) (by omega)) ?_
  rintro z1 t1 ⟨rfl, hp1_0⟩
  rcases hp1_0 with ⟨rfl, hp1_0⟩ | ⟨rfl, hp1_0⟩
  · skip
    refine w_ieq (by omega) (fun _ => ?_) (fun h => absurd (by omega) h)
    refine w_step rfl ?_
    refine w_push kc_m1000000001 ?_
    refine w_retI rfl ?_
    exact ⟨ok, fr, (by first | (exact Or.inl ⟨by omega, by first | omega | (subst_vars; rfl), rfl⟩) | (exact Or.inr (Or.inl ⟨by omega, by omega, by omega, by first | omega | (subst_vars; rfl), rfl⟩)) | (exact Or.inr (Or.inr (⟨by omega, by omega, by first | omega | (subst_vars; rfl), pu_1 m4 fm w5, pu_2 q0 m4 m6 fm w5 (by omega) (by omega) (by omega)⟩))))⟩
  refine w_ieq (by omega) (fun h => absurd h (by omega)) (fun _ => ?_)
  refine w_iload rfl ?_
  refine w_callS1I rfl (c_X8_isPlace ok (by omega) (by omega)) ?_
  rintro z2 t2 ⟨rfl, hp2_0⟩
  rcases hp2_0 with ⟨rfl, hp2_0⟩ | ⟨rfl, hp2_0⟩
  · skip
    refine w_ieq (by omega) (fun _ => ?_) (fun h => absurd (by omega) h)
    refine w_step rfl ?_
    refine w_push kc_m1000000001 ?_
    refine w_retI rfl ?_
    exact ⟨ok, fr, (by first | (exact Or.inl ⟨by omega, by first | omega | (subst_vars; rfl), rfl⟩) | (exact Or.inr (Or.inl ⟨by omega, by omega, by omega, by first | omega | (subst_vars; rfl), rfl⟩)) | (exact Or.inr (Or.inr (⟨by omega, by omega, by first | omega | (subst_vars; rfl), pu_1 m4 fm w5, pu_2 q0 m4 m6 fm w5 (by omega) (by omega) (by omega)⟩))))⟩
  refine w_ieq (by omega) (fun h => absurd h (by omega)) (fun _ => ?_)
  refine w_iload rfl ?_
  refine w_push kc_0 ?_
  refine w_push kc_1 ?_
  refine w_callS3I rfl (c_X8_within ok (by omega) (by omega) (by omega) (by omega) (by omega) (by omega)) ?_
  rintro z3 t3 ⟨rfl, hp3_0⟩
  rcases hp3_0 with ⟨rfl, hp3_0⟩ | ⟨rfl, hp3_0⟩
  · skip
    refine w_ine (by omega) (fun h => absurd h (by omega)) (fun _ => ?_)
    refine w_goto ?_
    refine w_step rfl ?_
    refine w_push kc_m1000000001 ?_
    refine w_retI rfl ?_
    exact ⟨ok, fr, (by first | (exact Or.inl ⟨by omega, by first | omega | (subst_vars; rfl), rfl⟩) | (exact Or.inr (Or.inl ⟨by omega, by omega, by omega, by first | omega | (subst_vars; rfl), rfl⟩)) | (exact Or.inr (Or.inr (⟨by omega, by omega, by first | omega | (subst_vars; rfl), pu_1 m4 fm w5, pu_2 q0 m4 m6 fm w5 (by omega) (by omega) (by omega)⟩))))⟩
  refine w_ine (by omega) (fun _ => ?_) (fun h => absurd (by omega) h)
  refine w_step rfl ?_
  refine w_aload rfl ?_
  refine w_getR (g_0_0 _) ?_
  refine w_getR (g_1_5 _) ?_
  refine w_iload rfl ?_
  refine w_iald (i := (p).toNat) (ai_7 _) (by omega) (by omega) (ae_7 _) ok (fun z4 hz4 hl4 hh4 => ?_)
  refine w_push kc_m1 ?_
  refine w_ceq (by omega) (fun h5 => ?_) (fun h5 => ?_)
  · skip
    refine w_step rfl ?_
    refine w_aload rfl ?_
    refine w_getR (g_0_0 _) ?_
    refine w_getR (g_1_3 _) ?_
    refine w_iload rfl ?_
    refine w_iald (i := (s).toNat) (ai_5 _) (by omega) (by omega) (ae_5 _) ok (fun z6 hz6 hl6 hh6 => ?_)
    refine w_istore (lv' := [some (.ref 0), some (.int (jI s)), some (.int (jI p)), some (.int (jI u)), some (.int (jI z6))]) rfl ?_
    refine w_aload rfl ?_
    refine w_getR (g_0_0 _) ?_
    refine w_iload rfl ?_
    refine w_iload rfl ?_
    refine w_callV2V (oj_1 _).choose_spec rfl (e_X4_moveTo isT1 ok (by omega) (by omega) (by omega) (by omega)) ?_
    rintro t7 ⟨ok7, fq7, hp7_0, hp7_1⟩
    have fr7 := fr.then fq7 (by simp)
    have m4 := hp7_0
    have m6 := hp7_1
    have fm := fq7
    refine w_aload rfl ?_
    refine w_getR (g_0_0 _) ?_
    refine w_getR (g_1_4 _) ?_
    refine w_iload rfl ?_
    refine w_iload rfl ?_
    refine w_iast (i := (s).toNat) (ai_6 _) rfl (by omega) (by omega) (ae_6 _) ok7 (by omega) (fun t8 ht8 ok8 => ?_)
    have fr8 := fr7.uA ht8 (by simp)
    have w5 := ht8
    refine w_iload rfl ?_
    refine w_retI rfl ?_
    exact ⟨ok8, fr8, (by first | (exact Or.inl ⟨by omega, by first | omega | (subst_vars; rfl), rfl⟩) | (exact Or.inr (Or.inl ⟨by omega, by omega, by omega, by first | omega | (subst_vars; rfl), rfl⟩)) | (exact Or.inr (Or.inr (⟨by omega, by omega, by first | omega | (subst_vars; rfl), pu_1 m4 fm w5, pu_2 q0 m4 m6 fm w5 (by omega) (by omega) (by omega)⟩))))⟩
  refine w_aload rfl ?_
  refine w_getR (g_0_0 _) ?_
  refine w_getR (g_1_5 _) ?_
  refine w_iload rfl ?_
  refine w_iald (i := (p).toNat) (ai_7 _) (by omega) (by omega) (ae_7 _) ok (fun z9 hz9 hl9 hh9 => ?_)
  refine w_iload rfl ?_
  refine w_ceq (by omega) (fun h10 => ?_) (fun h10 => ?_)
  · skip
    refine w_step rfl ?_
    refine w_aload rfl ?_
    refine w_getR (g_0_0 _) ?_
    refine w_getR (g_1_3 _) ?_
    refine w_iload rfl ?_
    refine w_iald (i := (s).toNat) (ai_5 _) (by omega) (by omega) (ae_5 _) ok (fun z11 hz11 hl11 hh11 => ?_)
    refine w_istore (lv' := [some (.ref 0), some (.int (jI s)), some (.int (jI p)), some (.int (jI u)), some (.int (jI z11))]) rfl ?_
    refine w_aload rfl ?_
    refine w_getR (g_0_0 _) ?_
    refine w_iload rfl ?_
    refine w_iload rfl ?_
    refine w_callV2V (oj_1 _).choose_spec rfl (e_X4_moveTo isT1 ok (by omega) (by omega) (by omega) (by omega)) ?_
    rintro t12 ⟨ok12, fq12, hp12_0, hp12_1⟩
    have fr12 := fr.then fq12 (by simp)
    have m4 := hp12_0
    have m6 := hp12_1
    have fm := fq12
    refine w_aload rfl ?_
    refine w_getR (g_0_0 _) ?_
    refine w_getR (g_1_4 _) ?_
    refine w_iload rfl ?_
    refine w_iload rfl ?_
    refine w_iast (i := (s).toNat) (ai_6 _) rfl (by omega) (by omega) (ae_6 _) ok12 (by omega) (fun t13 ht13 ok13 => ?_)
    have fr13 := fr12.uA ht13 (by simp)
    have w5 := ht13
    refine w_iload rfl ?_
    refine w_retI rfl ?_
    exact ⟨ok13, fr13, (by first | (exact Or.inl ⟨by omega, by first | omega | (subst_vars; rfl), rfl⟩) | (exact Or.inr (Or.inl ⟨by omega, by omega, by omega, by first | omega | (subst_vars; rfl), rfl⟩)) | (exact Or.inr (Or.inr (⟨by omega, by omega, by first | omega | (subst_vars; rfl), pu_1 m4 fm w5, pu_2 q0 m4 m6 fm w5 (by omega) (by omega) (by omega)⟩))))⟩
  refine w_push kc_m1000000002 ?_
  refine w_retI rfl ?_
  exact ⟨ok, fr, (by first | (exact Or.inl ⟨by omega, by first | omega | (subst_vars; rfl), rfl⟩) | (exact Or.inr (Or.inl ⟨by omega, by omega, by omega, by first | omega | (subst_vars; rfl), rfl⟩)) | (exact Or.inr (Or.inr (⟨by omega, by omega, by first | omega | (subst_vars; rfl), pu_1 m4 fm w5, pu_2 q0 m4 m6 fm w5 (by omega) (by omega) (by omega)⟩))))⟩
set_option maxRecDepth 100000 in
set_option maxHeartbeats 4000000 in
theorem e_X8_box {d : Nat} {t : TS} {s : Int}  (ok : OK t) (q0 : HCt t 1) (q1 : -2147483648 ≤ s) (q2 : s ≤ 2147483647) : CI (EX FU (d + 3)) 81 [.ref 0, .int (jI s)] (mk t) (fun z t' => OK t' ∧ Fr [(5, 100), (7, 100)] t t' ∧ (((¬ (0 ≤ s ∧ s ≤ tI t 1 10 - 1)) ∧ z = (-1000000001) ∧ t' = t) ∨ ((0 ≤ s ∧ s ≤ tI t 1 10 - 1) ∧ z = tA t 5 s.toNat ∧ (CP t' 1 = (upF (tA t 5) s.toNat 12, tA t 6)) ∧ (HCt t' 1)))) := by
  refine CI_ent (d := d + 2) (Bk := bX8_box) (nL := 3) rfl rfl rfl (Nat.le_of_ble_eq_true rfl) ?_
  show Rn _ 1000000 0 [some (.ref 0), some (.int (jI s)), none] [] _ _
  have fr : Fr [(5, 100), (7, 100)] t t := Fr.rf _ _
  have hn0 := (ok.f fe_1_10).1
  have hn1 := (ok.f fe_1_10).2
  refine w_step rfl ?_
  refine w_aload rfl ?_
  refine w_iload rfl ?_
  refine w_callV1I (oj_0 _).choose_spec rfl (c_X8_isStone ok (by omega) (by omega)) ?_
  rintro z1 t1 ⟨rfl, hp1_0⟩
  rcases hp1_0 with ⟨rfl, hp1_0⟩ | ⟨rfl, hp1_0⟩
  · skip
    refine w_ine (by omega) (fun h => absurd h (by omega)) (fun _ => ?_)
    refine w_push kc_m1000000001 ?_
    refine w_retI rfl ?_
    exact ⟨ok, fr, (by first | (exact Or.inl ⟨by omega, by first | omega | (subst_vars; rfl), rfl⟩) | (exact Or.inr (⟨by omega, by first | omega | (subst_vars; rfl), pu_3 m4 fm, pu_4 q0 m4 m6 fm (by omega)⟩)))⟩
  refine w_ine (by omega) (fun _ => ?_) (fun h => absurd (by omega) h)
  refine w_step rfl ?_
  refine w_aload rfl ?_
  refine w_getR (g_0_0 _) ?_
  refine w_getR (g_1_3 _) ?_
  refine w_iload rfl ?_
  refine w_iald (i := (s).toNat) (ai_5 _) (by omega) (by omega) (ae_5 _) ok (fun z2 hz2 hl2 hh2 => ?_)
  refine w_istore (lv' := [some (.ref 0), some (.int (jI s)), some (.int (jI z2))]) rfl ?_
  refine w_aload rfl ?_
  refine w_getR (g_0_0 _) ?_
  refine w_iload rfl ?_
  refine w_push kc_12 ?_
  refine w_callV2V (oj_1 _).choose_spec rfl (e_X4_moveTo isT1 ok (by omega) (by omega) (by omega) (by omega)) ?_
  rintro t3 ⟨ok3, fq3, hp3_0, hp3_1⟩
  have fr3 := fr.then fq3 (by simp)
  have m4 := hp3_0
  have m6 := hp3_1
  have fm := fq3
  refine w_iload rfl ?_
  refine w_retI rfl ?_
  exact ⟨ok3, fr3, (by first | (exact Or.inl ⟨by omega, by first | omega | (subst_vars; rfl), rfl⟩) | (exact Or.inr (⟨by omega, by first | omega | (subst_vars; rfl), pu_3 m4 fm, pu_4 q0 m4 m6 fm (by omega)⟩)))⟩
set_option maxRecDepth 100000 in
set_option maxHeartbeats 4000000 in
theorem e_X8_deal {d : Nat} {t : TS} {n : Int}  (ok : OK t) (q0 : GD t) (q1 : HCt t 1) (q2 : DK t 1 (tI t 1 10)) (q3 : -2147483648 ≤ n) (q4 : n ≤ 2147483647) : CI (EX FU (d + 8)) 84 [.ref 0, .int (jI n)] (mk t) (fun z t' => OK t' ∧ Fr [(1, 10), (1, 14), (2, 100), (3, 100), (4, 100), (5, 100), (6, 100), (9, 100)] t t' ∧ (((¬ (1 ≤ n ∧ n ≤ 12)) ∧ z = (-1000000001) ∧ t' = t) ∨ ((1 ≤ n ∧ n ≤ 12) ∧ z = min n (12 - tI t 1 10) ∧ (tI t' 1 10 = tI t 1 10 + min n (12 - tI t 1 10)) ∧ (tI t' 1 14 = dzF (min n (12 - tI t 1 10)).toNat (tI t 1 14)) ∧ (∀ m : Nat, tA t' 2 m = if tI t 1 10 ≤ (m : Int) ∧ (m : Int) < tI t 1 10 + min n (12 - tI t 1 10) then kdF (tI t 1 14) (m - (tI t 1 10).toNat) else tA t 2 m) ∧ (∀ m : Nat, tA t' 3 m = if tI t 1 10 ≤ (m : Int) ∧ (m : Int) < tI t 1 10 + min n (12 - tI t 1 10) then ldF (tI t 1 14) (m - (tI t 1 10).toNat) else tA t 3 m) ∧ (∀ m : Nat, tA t' 4 m = if tI t 1 10 ≤ (m : Int) ∧ (m : Int) < tI t 1 10 + min n (12 - tI t 1 10) then rdF (tI t 1 14) (m - (tI t 1 10).toNat) else tA t 4 m) ∧ (∀ m : Nat, tA t' 5 m = if tI t 1 10 ≤ (m : Int) ∧ (m : Int) < tI t 1 10 + min n (12 - tI t 1 10) then 12 else tA t 5 m) ∧ (∀ m : Nat, tA t' 6 m = if tI t 1 10 ≤ (m : Int) ∧ (m : Int) < tI t 1 10 + min n (12 - tI t 1 10) then 0 else tA t 6 m) ∧ (HCt t' 1) ∧ (DK t' 1 (tI t' 1 10))))) := by
  refine CI_ent (d := d + 7) (Bk := bX8_deal) (nL := 4) rfl rfl rfl (Nat.le_of_ble_eq_true rfl) ?_
  show Rn _ 1000000 0 [some (.ref 0), some (.int (jI n)), none, none] [] _ _
  have fr : Fr [(1, 10), (1, 14), (2, 100), (3, 100), (4, 100), (5, 100), (6, 100), (9, 100)] t t := Fr.rf _ _
  have hn0 := (ok.f fe_1_10).1
  have hn1 := (ok.f fe_1_10).2
  refine w_step rfl ?_
  refine w_iload rfl ?_
  refine w_push kc_1 ?_
  refine w_push kc_12 ?_
  refine w_callS3I rfl (c_X8_within ok (by omega) (by omega) (by omega) (by omega) (by omega) (by omega)) ?_
  rintro z1 t1 ⟨rfl, hp1_0⟩
  rcases hp1_0 with ⟨rfl, hp1_0⟩ | ⟨rfl, hp1_0⟩
  · skip
    refine w_ine (by omega) (fun h => absurd h (by omega)) (fun _ => ?_)
    refine w_push kc_m1000000001 ?_
    refine w_retI rfl ?_
    exact ⟨ok, fr, (by first | (exact Or.inl ⟨by omega, by first | omega | (subst_vars; rfl), rfl⟩) | (exact Or.inr (⟨by omega, by first | omega | (subst_vars; rfl), by omega, by rw [i2_3, show i = min n (12 - tI t 1 10) by omega], by have e : i = min n (12 - tI t 1 10) := (by omega); rw [← e]; exact i2_4, by have e : i = min n (12 - tI t 1 10) := (by omega); rw [← e]; exact i2_5, by have e : i = min n (12 - tI t 1 10) := (by omega); rw [← e]; exact i2_6, by have e : i = min n (12 - tI t 1 10) := (by omega); rw [← e]; exact i2_9, by have e : i = min n (12 - tI t 1 10) := (by omega); rw [← e]; exact i2_10, i2_7, i2_8⟩)))⟩
  refine w_ine (by omega) (fun _ => ?_) (fun h => absurd (by omega) h)
  refine w_step rfl ?_
  refine w_iload rfl ?_
  refine w_push kc_12 ?_
  refine w_aload rfl ?_
  refine w_getR (g_0_0 _) ?_
  refine w_getI (g_1_10 _) fe_1_10 ok (fun z2 hz2 hl2 hh2 => ?_)
  have en := hz2
  refine w_sub ?_
  refine w_min rfl (by omega) ?_
  
  refine w_istore (lv' := [some (.ref 0), some (.int (jI n)), some (.int (jI (min n (12 - z2)))), none]) rfl ?_
  refine w_push kc_0 ?_
  refine w_istore (lv' := [some (.ref 0), some (.int (jI n)), some (.int (jI (min n (12 - z2)))), some (.int (jI 0))]) rfl ?_
  refine w_goto ?_
  have key2 : ∀ (n2 M2 : Nat) (i : Int) (t3 : TS), OK t3 → Fr [(1, 10), (1, 14), (2, 100), (3, 100), (4, 100), (5, 100), (6, 100), (9, 100)] t t3 → (0 ≤ i) → (i ≤ (min n (12 - tI t 1 10))) → (tI t3 1 10 = tI t 1 10 + i) → (tI t3 1 14 = dzF i.toNat (tI t 1 14)) → (∀ m : Nat, tA t3 2 m = if tI t 1 10 ≤ (m : Int) ∧ (m : Int) < tI t 1 10 + i then kdF (tI t 1 14) (m - (tI t 1 10).toNat) else tA t 2 m) → (∀ m : Nat, tA t3 3 m = if tI t 1 10 ≤ (m : Int) ∧ (m : Int) < tI t 1 10 + i then ldF (tI t 1 14) (m - (tI t 1 10).toNat) else tA t 3 m) → (∀ m : Nat, tA t3 4 m = if tI t 1 10 ≤ (m : Int) ∧ (m : Int) < tI t 1 10 + i then rdF (tI t 1 14) (m - (tI t 1 10).toNat) else tA t 4 m) → (HCt t3 1) → (DK t3 1 (tI t3 1 10)) → (∀ m : Nat, tA t3 5 m = if tI t 1 10 ≤ (m : Int) ∧ (m : Int) < tI t 1 10 + i then 12 else tA t 5 m) → (∀ m : Nat, tA t3 6 m = if tI t 1 10 ≤ (m : Int) ∧ (m : Int) < tI t 1 10 + i then 0 else tA t 6 m) → 12 - i < (n2 : Int) → 60 * n2 + (1000) ≤ M2 → Rn (bX8_deal (EX FU (d + 7))) M2 2 [some (.ref 0), some (.int (jI n)), some (.int (jI (min n (12 - z2)))), some (.int (jI i))] [] (mk t3) (PI (fun z t' => OK t' ∧ Fr [(1, 10), (1, 14), (2, 100), (3, 100), (4, 100), (5, 100), (6, 100), (9, 100)] t t' ∧ (((¬ (1 ≤ n ∧ n ≤ 12)) ∧ z = (-1000000001) ∧ t' = t) ∨ ((1 ≤ n ∧ n ≤ 12) ∧ z = min n (12 - tI t 1 10) ∧ (tI t' 1 10 = tI t 1 10 + min n (12 - tI t 1 10)) ∧ (tI t' 1 14 = dzF (min n (12 - tI t 1 10)).toNat (tI t 1 14)) ∧ (∀ m : Nat, tA t' 2 m = if tI t 1 10 ≤ (m : Int) ∧ (m : Int) < tI t 1 10 + min n (12 - tI t 1 10) then kdF (tI t 1 14) (m - (tI t 1 10).toNat) else tA t 2 m) ∧ (∀ m : Nat, tA t' 3 m = if tI t 1 10 ≤ (m : Int) ∧ (m : Int) < tI t 1 10 + min n (12 - tI t 1 10) then ldF (tI t 1 14) (m - (tI t 1 10).toNat) else tA t 3 m) ∧ (∀ m : Nat, tA t' 4 m = if tI t 1 10 ≤ (m : Int) ∧ (m : Int) < tI t 1 10 + min n (12 - tI t 1 10) then rdF (tI t 1 14) (m - (tI t 1 10).toNat) else tA t 4 m) ∧ (∀ m : Nat, tA t' 5 m = if tI t 1 10 ≤ (m : Int) ∧ (m : Int) < tI t 1 10 + min n (12 - tI t 1 10) then 12 else tA t 5 m) ∧ (∀ m : Nat, tA t' 6 m = if tI t 1 10 ≤ (m : Int) ∧ (m : Int) < tI t 1 10 + min n (12 - tI t 1 10) then 0 else tA t 6 m) ∧ (HCt t' 1) ∧ (DK t' 1 (tI t' 1 10)))))) := by
    intro n2
    induction n2 with
    | zero => intro M2 i t3 ok3 fr3 i2_0 i2_1 i2_2 i2_3 i2_4 i2_5 i2_6 i2_7 i2_8 i2_9 i2_10 v2 f2; exfalso; omega
    | succ n2 ih2 =>
      intro M2 i t3 ok3 fr3 i2_0 i2_1 i2_2 i2_3 i2_4 i2_5 i2_6 i2_7 i2_8 i2_9 i2_10 v2 f2
      obtain ⟨M2, rfl⟩ : ∃ m, M2 = m + 60 := ⟨M2 - 60, by omega⟩
      refine w_step rfl ?_
      refine w_iload rfl ?_
      refine w_iload rfl ?_
      refine w_cge (by omega) (fun h4 => ?_) (fun h4 => ?_)
      · skip
        refine w_step rfl ?_
        refine w_iload rfl ?_
        refine w_retI rfl ?_
        exact ⟨ok3, fr3, (by first | (exact Or.inl ⟨by omega, by first | omega | (subst_vars; rfl), rfl⟩) | (exact Or.inr (⟨by omega, by first | omega | (subst_vars; rfl), by omega, by rw [i2_3, show i = min n (12 - tI t 1 10) by omega], by have e : i = min n (12 - tI t 1 10) := (by omega); rw [← e]; exact i2_4, by have e : i = min n (12 - tI t 1 10) := (by omega); rw [← e]; exact i2_5, by have e : i = min n (12 - tI t 1 10) := (by omega); rw [← e]; exact i2_6, by have e : i = min n (12 - tI t 1 10) := (by omega); rw [← e]; exact i2_9, by have e : i = min n (12 - tI t 1 10) := (by omega); rw [← e]; exact i2_10, i2_7, i2_8⟩)))⟩
      refine w_aload rfl ?_
      refine w_getR (g_0_0 _) ?_
      refine w_callV0V (oj_1 _).choose_spec rfl (e_X4_drawStone isT1 ok3 (GD.fr q0 fr3) (by omega)) ?_
      rintro t5 ⟨ok5, fq5, hp5_0, hp5_1, hp5_2, hp5_3, hp5_4, hp5_5⟩
      have fr5 := fr3.then fq5 (by simp)
      have ez : tI t5 1 14 = dzF (i + 1).toNat (tI t 1 14) := by rw [hp5_0, i2_3, show (i + 1).toNat = i.toNat + 1 by omega]; rfl
      have e1 := hp5_1
      have e2 := hp5_2
      have e3 := hp5_3
      have e4 := hp5_4
      have e5 := as_hc i2_7 hp5_5 (fun i => fq5.2.1 7 (by simp) i) hp5_1 (by omega)
      have e6 := as_dk i2_8 hp5_5 hp5_1 (by omega) (fun i => fq5.2.1 11 (by simp) i) (fq5.1 1 11 (by simp)) (fun i => fq5.2.2.1 10 (by simp) i) fq5.2.2.2.2 (fun i hi => by rw [hp5_2 i, if_neg hi]) (fun i hi => by rw [hp5_3 i, if_neg hi]) (fun i hi => by rw [hp5_4 i, if_neg hi])
      have e7 := hp5_5.1
      have e8 := hp5_5.2.1
      refine w_iinc (lv' := [some (.ref 0), some (.int (jI n)), some (.int (jI (min n (12 - z2)))), some (.int (jI (i + 1)))]) kc_1 rfl rfl ?_
      refine w_goto ?_
      exact ih2 _ (i + 1) t5 ok5 fr5 (by omega) (by omega) (by omega) ez (deal_step hn0 i2_0 (by omega) i2_4 e2 (by rw [i2_3]; rfl)) (deal_step hn0 i2_0 (by omega) i2_5 e3 (by rw [i2_3]; rfl)) (deal_step hn0 i2_0 (by omega) i2_6 e4 (by rw [i2_3]; rfl)) e5 e6 (deal_step (F := fun _ => 12) hn0 i2_0 (by omega) i2_9 e7 rfl) (deal_step (F := fun _ => 0) hn0 i2_0 (by omega) i2_10 e8 rfl) (by omega) (by omega)
  exact key2 13 _ 0 t ok fr (by omega) (by omega) (by omega) rfl (by intro m; rw [if_neg (by omega)]) (by intro m; rw [if_neg (by omega)]) (by intro m; rw [if_neg (by omega)]) q1 q2 (by intro m; rw [if_neg (by omega)]) (by intro m; rw [if_neg (by omega)]) (by omega) (by omega)
set_option maxRecDepth 100000 in
set_option maxHeartbeats 4000000 in
theorem e_X8_days {d : Nat} {t : TS} {n : Int}  (ok : OK t) (q0 : HCt t 1) (q1 : -2147483648 ≤ n) (q2 : n ≤ 2147483647) (q3 : 0 ≤ tI t 1 13) (q4 : tI t 1 13 ≤ 9999) : CI (EX FU (d + 6)) 86 [.ref 0, .int (jI n)] (mk t) (fun z t' => OK t' ∧ Fr [(1, 13), (1, 14), (5, 100), (6, 100), (7, 100)] t t' ∧ (((¬ (1 ≤ n ∧ n ≤ 100)) ∧ z = (-1000000001) ∧ t' = t) ∨ ((1 ≤ n ∧ n ≤ 100) ∧ z = cnX t 1 (min n (9999 - tI t 1 13)).toNat - cnX t 1 0 ∧ (tI t' 1 14 = zdsF (min n (9999 - tI t 1 13)).toNat (tI t 1 14) (tI t 1 12)) ∧ (tI t' 1 13 = tI t 1 13 + min n (9999 - tI t 1 13)) ∧ (GLp t t' 1 (dysF (tI t 1 10).toNat (OC t 1) (tI t 1 12) (tI t 1 14) (min n (9999 - tI t 1 13)).toNat (CP t 1)))))) := by
  refine CI_ent (d := d + 5) (Bk := bX8_days) (nL := 3) rfl rfl rfl (Nat.le_of_ble_eq_true rfl) ?_
  show Rn _ 1000000 0 [some (.ref 0), some (.int (jI n)), none] [] _ _
  have fr : Fr [(1, 13), (1, 14), (5, 100), (6, 100), (7, 100)] t t := Fr.rf _ _
  have hn0 := (ok.f fe_1_10).1
  have hn1 := (ok.f fe_1_10).2
  refine w_step rfl ?_
  refine w_iload rfl ?_
  refine w_push kc_1 ?_
  refine w_push kc_100 ?_
  refine w_callS3I rfl (c_X8_within ok (by omega) (by omega) (by omega) (by omega) (by omega) (by omega)) ?_
  rintro z1 t1 ⟨rfl, hp1_0⟩
  rcases hp1_0 with ⟨rfl, hp1_0⟩ | ⟨rfl, hp1_0⟩
  · skip
    refine w_ine (by omega) (fun h => absurd h (by omega)) (fun _ => ?_)
    refine w_push kc_m1000000001 ?_
    refine w_retI rfl ?_
    exact ⟨ok, fr, (by first | (exact Or.inl ⟨by omega, by first | omega | (subst_vars; rfl), rfl⟩) | (exact Or.inr (⟨by omega, by omega, by first | exact e1, by first | exact e2 | omega, e3⟩)))⟩
  refine w_ine (by omega) (fun _ => ?_) (fun h => absurd (by omega) h)
  refine w_step rfl ?_
  refine w_aload rfl ?_
  refine w_getR (g_0_0 _) ?_
  refine w_callV0I (oj_1 _).choose_spec rfl (e_X4_laidStones isT1 ok) ?_
  rintro z2 t2 ⟨rfl, hp2_0, hp2_1, hp2_2⟩
  have hc1 : z2 = cnX t 1 0 := by rw [hp2_0]; exact cnC q0
  have hcr := cn_r (tA t 7) 12
  refine w_istore (lv' := [some (.ref 0), some (.int (jI n)), some (.int (jI z2))]) rfl ?_
  refine w_aload rfl ?_
  refine w_getR (g_0_0 _) ?_
  refine w_iload rfl ?_
  refine w_push kc_9999 ?_
  refine w_aload rfl ?_
  refine w_getR (g_0_0 _) ?_
  refine w_getI (g_1_13 _) fe_1_13 ok (fun z3 hz3 hl3 hh3 => ?_)
  have en := hz3
  refine w_sub ?_
  refine w_min rfl (by omega) ?_
  refine w_callV1V (oj_1 _).choose_spec rfl (e_X4_passDays isT1 ok (by omega) (by omega) (by omega) (by omega)) ?_
  rintro t4 ⟨ok4, fq4, hp4_0, hp4_1, hp4_2⟩
  have fr4 := fr.then fq4 (by simp)
  have e1 := hp4_0
  rw [en] at e1
  have e2 := hp4_1 (by omega) (by omega) (by omega)
  have e3 := hp4_2
  rw [en] at e3
  refine w_aload rfl ?_
  refine w_getR (g_0_0 _) ?_
  refine w_callV0I (oj_1 _).choose_spec rfl (e_X4_laidStones isT1 ok4) ?_
  rintro z5 t5 ⟨rfl, hp5_0, hp5_1, hp5_2⟩
  have hcr2 := cn_r (tA t4 7) 12
  have hc2 : z5 = cnX t 1 (min n (9999 - tI t 1 13)).toNat := by rw [hp5_0]; exact dy_cn e3
  refine w_iload rfl ?_
  refine w_sub ?_
  refine w_retI rfl ?_
  exact ⟨ok4, fr4, (by first | (exact Or.inl ⟨by omega, by first | omega | (subst_vars; rfl), rfl⟩) | (exact Or.inr (⟨by omega, by omega, by first | exact e1, by first | exact e2 | omega, e3⟩)))⟩
end
