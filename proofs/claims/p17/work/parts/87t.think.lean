/-! ===== what is only thought: the table aside ===== -/
def BHp (t u : TS) (b k : Nat) : Prop := tI u 24 10 = tI t b 10 ∧ HCt u 24 ∧ Agr (tI t b 10).toNat (CP u 24) (dysF (tI t b 10).toNat (OC t b) (tI t b 12) (tI t b 14) k (CP t b)) ∧ AgO (tI t b 10).toNat (OC u 24) (OC t b) ∧ (∀ s, s < 12 → tA u 26 s = tA t (b + 2) s ∧ tA u 27 s = tA t (b + 3) s) ∧ tI u 24 12 = tI t b 12 ∧ tI u 24 14 = zdsF k (tI t b 14) (tI t b 12)
theorem ago_of {t u : TS} {b c n : Nat} (h7 : ∀ i : Nat, i < 24 → tA u (c + 7) i = tA t (b + 7) i) (h8 : ∀ i : Nat, i < 96 → tA u (c + 8) i = tA t (b + 8) i) (hn : n ≤ 12) : AgO n (OC u c) (OC t b) := by
  intro s p v hs hp hv
  unfold OC ofF
  rw [h7 _ (by omega), h7 _ (by omega), h8 _ (by omega), h8 _ (by omega)]
theorem AgO.tr {n : Nat} {A B C : Nat → Nat → Nat → Int} (h : AgO n A B) (k : AgO n B C) : AgO n A C := fun s p v hs hp hv => (h s p v hs hp hv).trans (k s p v hs hp hv)
theorem AgO.rf (n : Nat) (A : Nat → Nat → Nat → Int) : AgO n A A := fun _ _ _ _ _ _ => rfl
theorem Agr.rf (n : Nat) (x : GPU) : Agr n x x := fun _ _ => ⟨rfl, rfl⟩
theorem Agr.tr {n : Nat} {x y z : GPU} (h : Agr n x y) (k : Agr n y z) : Agr n x z := fun s hs => ⟨(h s hs).1.trans (k s hs).1, (h s hs).2.trans (k s hs).2⟩
theorem HC.cp {H P G Q : Nat → Int} {n : Nat} (h : HC H P n) (hH : ∀ i, i < 12 → G i = H i) (hP : ∀ s, s < n → Q s = P s) : HC G Q n := by
  refine ⟨fun q hq => ?_, h.2.1.congr (fun s hs => (hP s hs).symm), fun s hs => by rw [hP s hs]; exact h.2.2 s hs⟩
  rw [hH q hq, h.1 q hq]
  exact hoF_congr (fun s hs => (hP s hs).symm)
theorem bh_0 {t u : TS} {b : Nat} (h : HCt t b) (hn : tI t b 10 ≤ 12) (h10 : tI u 24 10 = tI t b 10) (h12 : tI u 24 12 = tI t b 12) (h14 : tI u 24 14 = tI t b 14) (h2 : ∀ i : Nat, i < 12 → tA u 26 i = tA t (b + 2) i) (h3 : ∀ i : Nat, i < 12 → tA u 27 i = tA t (b + 3) i) (h4 : ∀ i : Nat, i < 12 → tA u 28 i = tA t (b + 4) i) (h5 : ∀ i : Nat, i < 12 → tA u 29 i = tA t (b + 5) i) (h6 : ∀ i : Nat, i < 12 → tA u 30 i = tA t (b + 6) i) (h7 : ∀ i : Nat, i < 24 → tA u 31 i = tA t (b + 7) i) (h8 : ∀ i : Nat, i < 96 → tA u 32 i = tA t (b + 8) i) : BHp t u b 0 := by
  refine ⟨h10, ?_, fun s hs => ⟨h4 s (by omega), h5 s (by omega)⟩, ago_of (c := 24) h7 h8 (by omega), fun s hs => ⟨h2 s hs, h3 s hs⟩, h12, h14⟩
  unfold HCt
  rw [h10]
  exact HC.cp h h6 (fun s hs => h4 s (by omega))
theorem bh_s {S : List (Nat × Nat)} {t u v : TS} {b k : Nat} (h : BHp t u b k) (g : GLp u v 24 (dyF (tI u 24 10).toNat (OC u 24) (tI u 24 12) (tI u 24 14) (CP u 24))) (hz : tI v 24 14 = zdF (tI u 24 14) (tI u 24 12)) (f : Fr S u v) (h12 : (24, 12) ∉ S) (h26 : (26, 100) ∉ S) (h27 : (27, 100) ∉ S) : BHp t v b (k + 1) := by
  obtain ⟨a1, a2, a3, a4, a5, a6, a7⟩ := h
  obtain ⟨g1, g2, g3, g4⟩ := g
  refine ⟨g4.trans a1, g2, ?_, by rw [g3]; exact a4, fun s hs => ?_, (f.1 _ _ h12).trans a6, ?_⟩
  · rw [g1, a1, a6, a7]
    exact dyF_agr a3 a4
  · rw [f.2.1 _ h26, f.2.1 _ h27]
    exact a5 s hs
  · rw [hz, a6, a7]
    rfl
theorem bh_d {S : List (Nat × Nat)} {t u v : TS} {b k : Nat} (h : BHp t u b 0) (g : GLp u v 24 (dysF (tI u 24 10).toNat (OC u 24) (tI u 24 12) (tI u 24 14) k (CP u 24))) (hz : tI v 24 14 = zdsF k (tI u 24 14) (tI u 24 12)) (f : Fr S u v) (h12 : (24, 12) ∉ S) (h26 : (26, 100) ∉ S) (h27 : (27, 100) ∉ S) : BHp t v b k := by
  obtain ⟨a1, a2, a3, a4, a5, a6, a7⟩ := h
  have a7' : tI u 24 14 = tI t b 14 := a7
  obtain ⟨g1, g2, g3, g4⟩ := g
  refine ⟨g4.trans a1, g2, ?_, by rw [g3]; exact a4, fun s hs => ?_, (f.1 _ _ h12).trans a6, ?_⟩
  · rw [g1, a1, a6, a7']
    exact dysF_agr a3 a4 k
  · rw [f.2.1 _ h26, f.2.1 _ h27]
    exact a5 s hs
  · rw [hz, a6, a7']
/-- what is read off behind some days -/
def xG (t : TS) (b k : Nat) : GPU := dysF (tI t b 10).toNat (OC t b) (tI t b 12) (tI t b 14) k (CP t b)
def pcX (t : TS) (b k : Nat) : Int := picG (tI t b 10).toNat (OC t b) (xG t b k)
def mtX (t : TS) (b k : Nat) : Int := matG (tI t b 10).toNat (tA t (b + 2)) (tA t (b + 3)) (xG t b k)
def cnX (t : TS) (b k : Nat) : Int := cnG (tI t b 10).toNat (xG t b k)
def atX (t : TS) (b k : Nat) (p : Int) : Int := hoF (xG t b k).1 p (tI t b 10).toNat
theorem u24 {u : TS} (ok : OK u) (s : Nat) : 0 ≤ tA u 29 s ∧ tA u 29 s ≤ 1 := ok.a (ae_29 s)
theorem bh_pic {t u : TS} {b k : Nat} (h : BHp t u b k) (ok : OK u) : picH (OC u 24) (tA u (24 + 5)) (tA u (24 + 6)) 12 = pcX t b k := by
  obtain ⟨a1, a2, a3, a4, a5, a6, a7⟩ := h
  rw [picC a2 (OC u 24) (fun _ _ _ => rfl) (fun s => u24 ok s), a1]
  exact picG_cg a3 a4 (fun s => u24 ok s)
theorem bh_mat {t u : TS} {b k : Nat} (h : BHp t u b k) (hn : tI t b 10 ≤ 12) : maH (tA u (24 + 2)) (tA u (24 + 3)) (tA u (24 + 5)) (tA u (24 + 6)) 11 = mtX t b k := by
  obtain ⟨a1, a2, a3, a4, a5, a6, a7⟩ := h
  rw [matC a2, a1]
  exact matG_cg a3 (fun s hs => a5 s (by omega))
theorem bh_cn {t u : TS} {b k : Nat} (h : BHp t u b k) : cnH (tA u (24 + 6)) 12 = cnX t b k := by
  obtain ⟨a1, a2, a3, a4, a5, a6, a7⟩ := h
  rw [cnC a2, a1]
  exact cnG_cg a3
theorem bh_at {t u : TS} {b k : Nat} (h : BHp t u b k) {p : Nat} (hp : p < 12) : tA u (24 + 6) p = atX t b k p := by
  obtain ⟨a1, a2, a3, a4, a5, a6, a7⟩ := h
  rw [a2.1 p hp, a1]
  exact hoF_congr (fun s hs => (a3 s hs).1)
/-! folds -/
def bfF (M : Nat → Int) : Nat → Int × Int
  | 0 => (-1, 0)
  | k + 1 => if (bfF M k).1 = -1 ∨ M k < (bfF M k).2 then ((k : Int), M k) else bfF M k
def bfA (q : Int × Int) (w : Int) : Int := if q.1 = -1 then -1000000005 else if w = 0 then q.1 else q.2
theorem bfF_cg {M M' : Nat → Int} : ∀ {n : Nat}, (∀ s, s < n → M s = M' s) → bfF M n = bfF M' n
  | 0, _ => rfl
  | n + 1, h => by
    unfold bfF
    rw [bfF_cg (fun s hs => h s (by omega)), h n (by omega)]
/-- the reference's state, the other one's -/
def bfR (M : Nat → Int) (k : Nat) (best least : Int) : Prop := best = (bfF M k).1 ∧ least = (bfF M k).2
def bfC (M : Nat → Int) (k : Nat) (least which : Int) : Prop := ((bfF M k).1 = -1 ∧ which = -1000000005 ∧ least = -1000000005) ∨ (0 ≤ which ∧ which = (bfF M k).1 ∧ least = (bfF M k).2)
theorem bfR.n {M : Nat → Int} {s best least : Int} (h : bfR M s.toNat best least) (h0 : 0 ≤ s) {x : Int} (hx : x = M s.toNat) (e : ¬ best = -1 ∧ ¬ x < least) : bfR M (s + 1).toNat best least := by
  obtain ⟨h1, h2⟩ := h
  rw [show (s + 1).toNat = s.toNat + 1 by omega]
  unfold bfR bfF
  rw [if_neg (by rw [← h1, ← h2, ← hx]; omega)]
  exact ⟨h1, h2⟩
theorem bfR.y {M : Nat → Int} {s best least : Int} (h : bfR M s.toNat best least) (h0 : 0 ≤ s) {x : Int} (hx : x = M s.toNat) (e : best = -1 ∨ x < least) : bfR M (s + 1).toNat s x := by
  obtain ⟨h1, h2⟩ := h
  rw [show (s + 1).toNat = s.toNat + 1 by omega]
  unfold bfR bfF
  rw [if_pos (by rw [← h1, ← h2, ← hx]; omega)]
  exact ⟨by show s = ((s.toNat : Nat) : Int); omega, hx⟩
theorem bfC.n {M : Nat → Int} {s least which : Int} (h : bfC M s.toNat least which) (h0 : 0 ≤ s) {x : Int} (hx : x = M s.toNat) (e : ¬ which = -1000000005 ∧ ¬ x < least) : bfC M (s + 1).toNat least which := by
  rcases h with h | h
  · exact absurd h.2.1 e.1
  · have k := bfR.n (M := M) (best := which) (least := least) ⟨h.2.1, h.2.2⟩ h0 hx ⟨by omega, e.2⟩
    exact Or.inr ⟨h.1, k.1, k.2⟩
theorem bfC.y {M : Nat → Int} {s least which : Int} (h : bfC M s.toNat least which) (h0 : 0 ≤ s) {x : Int} (hx : x = M s.toNat) (e : which = -1000000005 ∨ x < least) : bfC M (s + 1).toNat x s := by
  have k : bfR M (s + 1).toNat s x := by
    rcases h with h | h
    · exact bfR.y (M := M) (best := (bfF M s.toNat).1) (least := (bfF M s.toNat).2) ⟨rfl, rfl⟩ h0 hx (Or.inl h.1)
    · exact bfR.y (M := M) (best := which) (least := least) ⟨h.2.1, h.2.2⟩ h0 hx (Or.inr (by omega))
  exact Or.inr ⟨h0, k.1, k.2⟩
theorem bfC_a {M : Nat → Int} {k : Nat} {least which w z : Int} (h : bfC M k least which) (hz : (w = 0 ∧ z = which) ∨ (¬ w = 0 ∧ z = least)) : z = bfA (bfF M k) w := by
  unfold bfA
  rcases h with h | h
  · rw [if_pos h.1]
    omega
  · rw [if_neg (by omega)]
    rcases hz with q | q
    · rw [if_pos q.1]; omega
    · rw [if_neg q.1]; omega
theorem bfR_a {M : Nat → Int} {k : Nat} {best least w z : Int} (h : bfR M k best least) (hb : -1 ≤ best) (hz : (best < 0 ∧ z = -1000000005) ∨ (¬ best < 0 ∧ w = 0 ∧ z = best) ∨ (¬ best < 0 ∧ ¬ w = 0 ∧ z = least)) : z = bfA (bfF M k) w := by
  obtain ⟨h1, h2⟩ := h
  unfold bfA
  rw [← h1, ← h2]
  rcases hz with q | q | q
  · rw [if_pos (by omega)]; exact q.2
  · rw [if_neg (by omega), if_pos q.2.1]; exact q.2.2
  · rw [if_neg (by omega), if_neg q.2.1]; exact q.2.2
/-! the best push -/
def psF (F : Nat → Int) : Nat → Int × Int
  | 0 => (0, F 0)
  | k + 1 => if (psF F k).2 < F (k + 1) then (((k + 1 : Nat) : Int), F (k + 1)) else psF F k
theorem psF_cg {F F' : Nat → Int} : ∀ {n : Nat}, (∀ s, s ≤ n → F s = F' s) → psF F n = psF F' n
  | 0, h => by unfold psF; rw [h 0 (by omega)]
  | n + 1, h => by
    unfold psF
    rw [psF_cg (fun s hs => h s (by omega)), h (n + 1) (by omega)]
def psP (F : Nat → Int) (p fro most : Int) : Prop := fro = (psF F (p - 1).toNat).1 ∧ most = (psF F (p - 1).toNat).2
theorem psP.n {F : Nat → Int} {p fro most x : Int} (h : psP F p fro most) (h1 : 1 ≤ p) (hx : x = F p.toNat) (e : ¬ most < x) : psP F (p + 1) fro most := by
  obtain ⟨a, b⟩ := h
  unfold psP
  rw [show (p + 1 - 1).toNat = (p - 1).toNat + 1 by omega]
  unfold psF
  rw [show (p - 1).toNat + 1 = p.toNat by omega, ← hx, ← b, if_neg e]
  exact ⟨a, b⟩
theorem psP.y {F : Nat → Int} {p fro most x : Int} (h : psP F p fro most) (h1 : 1 ≤ p) (hx : x = F p.toNat) (e : most < x) : psP F (p + 1) p x := by
  obtain ⟨a, b⟩ := h
  unfold psP
  rw [show (p + 1 - 1).toNat = (p - 1).toNat + 1 by omega]
  unfold psF
  rw [show (p - 1).toNat + 1 = p.toNat by omega, ← hx, ← b, if_pos e]
  exact ⟨by show p = ((p.toNat : Nat) : Int); omega, rfl⟩
/-! changing two -/
def swI (G : Nat → Int) (a : Nat) : Nat → Int × Int → Int × Int
  | 0, x => x
  | k + 1, x => if (swI G a k x).1 < G (a + 1 + k) then (G (a + 1 + k), ((100 * a + (a + 1 + k) : Nat) : Int)) else swI G a k x
def swO (G : Nat → Nat → Int) (n : Nat) : Nat → Int × Int
  | 0 => (0, -1)
  | k + 1 => swI (G k) k (n - (k + 1)) (swO G n k)
theorem swI_cg {G G' : Nat → Int} {a : Nat} {x : Int × Int} : ∀ {k : Nat}, (∀ j, j < k → G (a + 1 + j) = G' (a + 1 + j)) → swI G a k x = swI G' a k x
  | 0, _ => rfl
  | k + 1, h => by
    unfold swI
    rw [swI_cg (fun j hj => h j (by omega)), h k (by omega)]
theorem swO_cg {G G' : Nat → Nat → Int} {n : Nat} (h : ∀ a b, a < b → b < n → G a b = G' a b) : ∀ k : Nat, k ≤ n → swO G n k = swO G' n k
  | 0, _ => rfl
  | k + 1, hk => by
    unfold swO
    rw [swO_cg h k (by omega)]
    exact swI_cg (fun j hj => h k _ (by omega) (by omega))
theorem swI_0 {G : Nat → Int} {a : Nat} {x : Int × Int} (h : 0 ≤ x.1 ∧ -1 ≤ x.2) : ∀ k : Nat, 0 ≤ (swI G a k x).1 ∧ -1 ≤ (swI G a k x).2
  | 0 => h
  | k + 1 => by
    have ih := swI_0 (G := G) (a := a) h k
    unfold swI
    split
    · exact ⟨by show 0 ≤ G _; omega, by show -1 ≤ ((_ : Nat) : Int); omega⟩
    · exact ih
theorem swO_0 (G : Nat → Nat → Int) (n : Nat) : ∀ k : Nat, 0 ≤ (swO G n k).1 ∧ -1 ≤ (swO G n k).2
  | 0 => ⟨Int.le_refl 0, Int.le_refl _⟩
  | k + 1 => swI_0 (swO_0 G n k) _
/-- how one side's numbers stand to the fold (pair: none is -1000000005, or -1) -/
def swC (no : Int) (x : Int × Int) (most pair : Int) : Prop := most = x.1 ∧ ((x.2 = -1 ∧ pair = no) ∨ (0 ≤ x.2 ∧ pair = x.2))
theorem swC.n {no : Int} {G : Nat → Int} {a b most pair g : Int} {x : Int × Int} (h : swC no (swI G a.toNat (b - a - 1).toNat x) most pair) (h0 : 0 ≤ a ∧ a < b) (hg : g = G b.toNat) (e : ¬ most < g) : swC no (swI G a.toNat (b + 1 - a - 1).toNat x) most pair := by
  rw [show (b + 1 - a - 1).toNat = (b - a - 1).toNat + 1 by omega]
  unfold swI
  rw [show a.toNat + 1 + (b - a - 1).toNat = b.toNat by omega, ← hg, if_neg (by rw [← h.1]; exact e)]
  exact h
theorem swC.y {no : Int} {G : Nat → Int} {a b most pair g : Int} {x : Int × Int} (h : swC no (swI G a.toNat (b - a - 1).toNat x) most pair) (h0 : 0 ≤ a ∧ a < b) (hg : g = G b.toNat) (e : most < g) : swC no (swI G a.toNat (b + 1 - a - 1).toNat x) g (100 * a + b) := by
  rw [show (b + 1 - a - 1).toNat = (b - a - 1).toNat + 1 by omega]
  unfold swI
  rw [show a.toNat + 1 + (b - a - 1).toNat = b.toNat by omega, ← hg, if_pos (by rw [← h.1]; exact e)]
  refine ⟨rfl, Or.inr ⟨by show 0 ≤ ((_ : Nat) : Int); omega, by show 100 * a + b = ((_ : Nat) : Int); omega⟩⟩
theorem swC.i {no : Int} {G : Nat → Nat → Int} {n : Nat} {a most pair : Int} (h : swC no (swO G n a.toNat) most pair) : swC no (swI (G a.toNat) a.toNat (a + 1 - a - 1).toNat (swO G n a.toNat)) most pair := by
  rw [show (a + 1 - a - 1).toNat = 0 by omega]
  exact h
theorem swC.o {no : Int} {G : Nat → Nat → Int} {n : Nat} {a b most pair : Int} (h : swC no (swI (G a.toNat) a.toNat (b - a - 1).toNat (swO G n a.toNat)) most pair) (h0 : 0 ≤ a) (hb : b.toNat = n ∧ a < b) : swC no (swO G n (a + 1).toNat) most pair := by
  rw [show (a + 1).toNat = a.toNat + 1 by omega]
  unfold swO
  rw [show n - (a.toNat + 1) = (b - a - 1).toNat by omega]
  exact h
theorem swC_a {no most pair z : Int} {x : Int × Int} (h : swC no x most pair) (hno : no = -1000000005 ∨ no = -1) (hz : (no = -1000000005 ∧ z = pair) ∨ (no = -1 ∧ ((pair < 0 ∧ z = -1000000005) ∨ (0 ≤ pair ∧ z = pair)))) : z = if x.2 = -1 then -1000000005 else x.2 := by
  obtain ⟨_, h⟩ := h
  split <;> omega
/-! the first place -/
def FsP (C : Nat → Prop) (n z : Int) : Prop := (z = -1000000005 ∧ ∀ k : Int, 0 ≤ k → k < n → ¬ C k.toNat) ∨ (0 ≤ z ∧ z < n ∧ C z.toNat ∧ ∀ k : Int, 0 ≤ k → k < z → ¬ C k.toNat)
theorem FsP.un {C D : Nat → Prop} {n y z : Int} (h : FsP C n y) (k : FsP D n z) (e : ∀ i : Int, 0 ≤ i → i < n → (C i.toNat ↔ D i.toNat)) : y = z := by
  rcases h with h | h
  · rcases k with k | k
    · omega
    · exact absurd ((e z k.1 k.2.1).mpr k.2.2.1) (h.2 z k.1 k.2.1)
  · rcases k with k | k
    · exact absurd ((e y h.1 h.2.1).mp h.2.2.1) (k.2 y h.1 h.2.1)
    · have a := k.2.2.2 y h.1
      have b := h.2.2.2 z k.1
      have c := (e y h.1 h.2.1).mp h.2.2.1
      have d := (e z k.1 k.2.1).mpr k.2.2.1
      by_cases q : y < z
      · exact absurd c (a q)
      · by_cases q2 : z < y
        · exact absurd d (b q2)
        · omega
/-! days told -/
def dueF (P M : Nat → Int) (i : Int) : Int := if i % 2 = 0 then P (i / 2 + 1).toNat else M (i / 2 + 1).toNat
def RiP (P M : Nat → Int) (w : Nat → Int) (many due r : Int) : Prop := 0 ≤ r ∧ r ≤ due ∧ (∀ i : Int, 0 ≤ i → i < r → i < many ∧ w i.toNat = dueF P M i) ∧ (r = due ∨ ¬ (r < many ∧ w r.toNat = dueF P M r))
def CkP (P M : Nat → Int) (w : Nat → Int) (many due z : Int) : Prop := ∃ r, RiP P M w many due r ∧ z = if r = many ∧ r = due then 0 else 1 + r
theorem RiP.un {P M P' M' w w' : Nat → Int} {many due r r' : Int} (h : RiP P M w many due r) (h' : RiP P' M' w' many due r') (e : ∀ i : Int, 0 ≤ i → i < due → i < many → (w i.toNat = dueF P M i ↔ w' i.toNat = dueF P' M' i)) : r = r' := by
  obtain ⟨a1, a2, a3, a4⟩ := h
  obtain ⟨b1, b2, b3, b4⟩ := h'
  by_cases q : r < r'
  · have c := b3 r a1 q
    rcases a4 with d | d
    · omega
    · exact absurd ⟨c.1, (e r a1 (by omega) c.1).mpr c.2⟩ d
  · by_cases q2 : r' < r
    · have c := a3 r' b1 q2
      rcases b4 with d | d
      · omega
      · exact absurd ⟨c.1, (e r' b1 (by omega) c.1).mp c.2⟩ d
    · omega
theorem CkP.un {P M P' M' w w' : Nat → Int} {many due z z' : Int} (h : CkP P M w many due z) (h' : CkP P' M' w' many due z') (e : ∀ i : Int, 0 ≤ i → i < due → i < many → (w i.toNat = dueF P M i ↔ w' i.toNat = dueF P' M' i)) : z = z' := by
  obtain ⟨r, h1, h2⟩ := h
  obtain ⟨r', k1, k2⟩ := h'
  have := h1.un k1 e
  subst this
  rw [h2, k2]
/-! bytes -/
def byF (x s : Int) : Int := fZ (fun x y => x &&& y) (fZ (fun x y => (x.toUInt32 >>> (y.toUInt32 &&& Int32.toUInt32 31)).toInt32) x s) 255
def fbF (x y w : Int) (k : Nat) : Int := byF (if k < 4 then x else if k < 8 then y else w) (24 - 8 * ((k % 4 : Nat) : Int))
