section
/-! ===== the two ways to read a text, as functions ===== -/
abbrev PCu : Type := Int × Int × Int × Int
abbrev PPs : Type := PCu × List (Int × Int) × Int × Int
abbrev PRs : Type := Int × List Int × Int
abbrev PSs : Type := PCu × List Int × List Int × Int × Int × Int × Int × (Nat → Int)
def skF (g : Nat → Int) (n : Int) : Nat → Int → Int
  | 0, p => p
  | k + 1, p => if p < n ∧ g p.toNat = 32 then skF g n k (p + 1) else p
def soF (g : Nat → Int) (n p : Int) : Int := if n ≤ p then 0 else if 97 ≤ g p.toNat ∧ g p.toNat ≤ 122 then 1 else if 48 ≤ g p.toNat ∧ g p.toNat ≤ 57 then 2 else 3
def ruF (g : Nat → Int) (n s : Int) : Nat → Int → Int
  | 0, p => p
  | k + 1, p => if p < n ∧ soF g n p = s then ruF g n s k (p + 1) else p
def spF (g : Nat → Int) (n a : Int) : Int := if soF g n a = 0 then a else if soF g n a = 3 then a + 1 else ruF g n (soF g n a) 97 (a + 1)
def stC (g : Nat → Int) (n : Int) (c : PCu) : PCu := (skF g n 97 c.2.2.1, soF g n (skF g n 97 c.2.2.1), spF g n (skF g n 97 c.2.2.1), if (c.2.1 = 1 ∨ c.2.1 = 2) ∧ skF g n 97 c.2.2.1 = c.2.2.1 then 1 else 0)
def siF (g : Nat → Int) (n : Int) (c : PCu) : Int := if c.2.1 = 3 ∧ c.1 < n then g c.1.toNat else 0
def lvF (s : Int) : Int := if s = 124 then 0 else if s = 38 then 1 else if s = 60 ∨ s = 61 ∨ s = 62 then 2 else if s = 43 ∨ s = 45 then 3 else if s = 42 ∨ s = 47 then 4 else -1
def sgF (s : Int) : Int := if s = 124 then -1 else if s = 38 then -2 else if s = 60 then -3 else if s = 61 then -4 else if s = 62 then -5 else if s = 43 then -6 else if s = 45 then -7 else if s = 42 then -8 else if s = 47 then -9 else 0
def rkF (s : Int) : Int := if s = -1 then 1 else if s = -2 then 2 else if -5 ≤ s then 3 else if -7 ≤ s then 4 else if -9 ≤ s then 5 else 6
def numF (g : Nat → Int) (a : Nat) : Nat → Int
  | 0 => 0
  | j + 1 => 10 * numF g a j + g (a + j) - 48
def trF (x : Int × Int) : Int := if x.1 = 0 then x.2 else if x.1 = 1 then 10000 + x.2 else if x.1 = 33 then -10 else sgF x.1
def emP (s v : Int) (x : PPs) : PPs := (x.1, (s, v) :: x.2.1, x.2.2.1, x.2.2.2)
def ftP (x : PPs) : PPs := (x.1, x.2.1, x.2.2.1, x.1.1)
def stP (g : Nat → Int) (n : Int) (x : PPs) : PPs := (stC g n x.1, x.2.1, x.2.2.1, x.2.2.2)
def opP (g : Nat → Int) (n q : Int) (x : PPs) : PPs := if x.1.2.2.2 = 1 then ftP x else if x.1.2.1 = 2 ∧ x.1.2.2.1 - x.1.1 ≤ 4 then (stC g n x.1, (0, numF g x.1.1.toNat (x.1.2.2.1 - x.1.1).toNat) :: x.2.1, x.2.2.1 + 1, x.2.2.2) else if x.1.2.1 = 1 ∧ x.1.2.2.1 - x.1.1 = 1 ∧ ¬ nmF q (g x.1.1.toNat) = -1 then (stC g n x.1, (1, nmF q (g x.1.1.toNat)) :: x.2.1, x.2.2.1 + 1, x.2.2.2) else ftP x
def clP (g : Nat → Int) (n : Int) (x : PPs) : PPs := if ¬ x.2.2.2 = -1 then x else if siF g n x.1 = 41 then stP g n x else ftP x
def LPx (g : Nat → Int) (n : Int) (f : PPs → PPs) (l : Int) : Nat → PPs → PPs
  | 0, x => x
  | i + 1, x => if x.2.2.2 = -1 ∧ lvF (siF g n x.1) = l then LPx g n f l i (emP (siF g n x.1) 0 (f (stP g n x))) else x
def RD (g : Nat → Int) (n q : Int) : Nat → Int → Int → Int → PPs → PPs
  | 0, _, _, _, x => x
  | m + 1, l, o, k, x => if 5 ≤ l then (if siF g n x.1 = 33 ∧ k < 8 then emP 33 0 (RD g n q m 5 o (k + 1) (stP g n x)) else if siF g n x.1 = 40 ∧ o < 8 then clP g n (RD g n q m 0 (o + 1) k (stP g n x)) else opP g n q x) else LPx g n (RD g n q m (l + 1) o k) l (if l = 2 then 1 else 96) (RD g n q m (l + 1) o k x)
def tkF (c : PCu) : Int := if c.2.1 = 1 then (if c.2.2.2 = 1 then 4 else 1) else if c.2.1 = 2 then (if c.2.2.2 = 1 ∨ 4 < c.2.2.1 - c.1 then 4 else 2) else c.2.1
def stF (b : Int) : List Int → List Int → List Int × List Int
  | [], O => ([], O)
  | a :: S, O => if ¬ a = -11 ∧ b ≤ rkF a then stF b S (a :: O) else (a :: S, O)
def noS : List Int → Int
  | [] => 0
  | a :: S => noS S + (if a = -10 then 1 else 0)
def upF (T : Nat → Int) (j : Nat) (v : Int) : Nat → Int := fun i => if i = j then v else T i
def opV (g : Nat → Int) (q : Int) (c : PCu) : Int := if tkF c = 2 then numF g c.1.toNat (c.2.2.1 - c.1).toNat else 10000 + nmF q (g c.1.toNat)
def sy1 (g : Nat → Int) (n q : Int) (c : PCu) (S O : List Int) (a w p k : Int) (T : Nat → Int) : PSs ⊕ PRs :=
  if w = 0 ∧ tkF c = 0 then .inr (if p = 0 then (-1, (stF 0 S O).2, a) else (c.1, [], 0))
  else if ¬ w = 0 then
    (if siF g n c = 33 ∧ k < 8 then .inl (stC g n c, -10 :: S, O, a, 1, p, noS (-10 :: S), T)
    else if siF g n c = 40 ∧ p < 8 then .inl (stC g n c, -11 :: S, O, a, 1, p + 1, noS (-11 :: S), upF T (p + 1).toNat 0)
    else if tkF c = 2 ∨ (tkF c = 1 ∧ c.2.2.1 - c.1 = 1 ∧ 0 ≤ nmF q (g c.1.toNat)) then .inl (stC g n c, (stF 6 S (opV g q c :: O)).1, (stF 6 S (opV g q c :: O)).2, a + 1, 0, p, noS (stF 6 S (opV g q c :: O)).1, T)
    else .inr (c.1, [], 0))
  else if siF g n c = 41 ∧ 0 < p then .inl (stC g n c, (stF 6 (stF 0 S O).1.tail (stF 0 S O).2).1, (stF 6 (stF 0 S O).1.tail (stF 0 S O).2).2, a, 0, p - 1, noS (stF 6 (stF 0 S O).1.tail (stF 0 S O).2).1, T)
  else if sgF (siF g n c) = 0 ∨ (rkF (sgF (siF g n c)) = 3 ∧ ¬ T p.toNat = 0) then .inr (c.1, [], 0)
  else .inl (stC g n c, sgF (siF g n c) :: (stF (rkF (sgF (siF g n c))) S O).1, (stF (rkF (sgF (siF g n c))) S O).2, a, 1, p, k, upF T p.toNat (if rkF (sgF (siF g n c)) = 3 ∨ (3 < rkF (sgF (siF g n c)) ∧ ¬ T p.toNat = 0) then 1 else 0))
def syS (g : Nat → Int) (n q : Int) (s : PSs) : PSs ⊕ PRs := sy1 g n q s.1 s.2.1 s.2.2.1 s.2.2.2.1 s.2.2.2.2.1 s.2.2.2.2.2.1 s.2.2.2.2.2.2.1 s.2.2.2.2.2.2.2
def syr (g : Nat → Int) (n q : Int) : Nat → PSs → Option PRs
  | 0, _ => none
  | m + 1, s => match syS g n q s with
    | .inl s' => syr g n q m s'
    | .inr r => some r
def Rch (g : Nat → Int) (n q : Int) (s s' : PSs) : Prop := ∀ k r, syr g n q k s' = some r → ∃ k', syr g n q k' s = some r
def Rft (g : Nat → Int) (n q : Int) (s : PSs) (f : Int) : Prop := ∃ k r, syr g n q k s = some r ∧ r.1 = f
theorem Rch.rf {g : Nat → Int} {n q : Int} (s : PSs) : Rch g n q s s := fun k _ h => ⟨k, h⟩
theorem Rch.tr {g : Nat → Int} {n q : Int} {a b c : PSs} (h : Rch g n q a b) (h' : Rch g n q b c) : Rch g n q a c := fun k r e => by
  obtain ⟨k1, e1⟩ := h' k r e
  exact h k1 r e1
theorem Rch.st {g : Nat → Int} {n q : Int} {s s' : PSs} (h : syS g n q s = .inl s') : Rch g n q s s' := fun k r e => ⟨k + 1, by
  show (match syS g n q s with
    | .inl s' => syr g n q k s'
    | .inr r => some r) = some r
  rw [h]
  exact e⟩
theorem Rft.of {g : Nat → Int} {n q f : Int} {s s' : PSs} (h : Rch g n q s s') (h' : Rft g n q s' f) : Rft g n q s f := by
  obtain ⟨k, r, e, e2⟩ := h'
  obtain ⟨k1, e1⟩ := h k r e
  exact ⟨k1, r, e1, e2⟩
theorem syr_dn {g : Nat → Int} {n q : Int} {s : PSs} {r : PRs} (h : syS g n q s = .inr r) : syr g n q 1 s = some r := by
  show (match syS g n q s with
    | .inl s' => syr g n q 0 s'
    | .inr r => some r) = some r
  rw [h]
theorem Rft.dn {g : Nat → Int} {n q : Int} {s : PSs} {r : PRs} (h : syS g n q s = .inr r) : Rft g n q s r.1 := ⟨1, r, syr_dn h, rfl⟩
theorem syr_up {g : Nat → Int} {n q : Int} : ∀ {k : Nat} {s : PSs} {r : PRs}, syr g n q k s = some r → ∀ j, syr g n q (k + j) s = some r
  | 0, _, _, h, _ => by cases h
  | k + 1, s, r, h, j => by
    rw [show k + 1 + j = (k + j) + 1 by omega]
    have h1 : (match syS g n q s with
      | .inl s' => syr g n q k s'
      | .inr r => some r) = some r := h
    show (match syS g n q s with
      | .inl s' => syr g n q (k + j) s'
      | .inr r => some r) = some r
    cases e : syS g n q s with
    | inl s' => rw [e] at h1; exact syr_up h1 j
    | inr r' => rw [e] at h1; exact h1
theorem syr_un {g : Nat → Int} {n q : Int} {k j : Nat} {s : PSs} {r r' : PRs} (h : syr g n q k s = some r) (h' : syr g n q j s = some r') : r = r' := by
  have a := syr_up h j
  have b := syr_up h' k
  rw [Nat.add_comm j k, a] at b
  exact Option.some.inj b
/-! what a cursor is -/
def WC (n : Int) (c : PCu) : Prop := 0 ≤ c.1 ∧ c.1 ≤ c.2.2.1 ∧ c.2.2.1 ≤ n ∧ 0 ≤ c.2.1 ∧ c.2.1 ≤ 3 ∧ (c.2.1 = 0 → c.1 = n) ∧ (¬ c.2.1 = 0 → c.1 < c.2.2.1)
theorem skF_b {g : Nat → Int} {n : Int} : ∀ (k : Nat) (p : Int), p ≤ n → p ≤ skF g n k p ∧ skF g n k p ≤ n
  | 0, p, h => ⟨Int.le_refl _, h⟩
  | k + 1, p, h => by
    unfold skF
    split
    · have := skF_b (g := g) (n := n) k (p + 1) (by omega)
      omega
    · omega
theorem ruF_b {g : Nat → Int} {n s : Int} : ∀ (k : Nat) (p : Int), p ≤ n → p ≤ ruF g n s k p ∧ ruF g n s k p ≤ n
  | 0, p, h => ⟨Int.le_refl _, h⟩
  | k + 1, p, h => by
    unfold ruF
    split
    · have := ruF_b (g := g) (n := n) (s := s) k (p + 1) (by omega)
      omega
    · omega
theorem soF_b (g : Nat → Int) (n p : Int) : 0 ≤ soF g n p ∧ soF g n p ≤ 3 ∧ (soF g n p = 0 ↔ n ≤ p) := by
  unfold soF
  (repeat' split) <;> omega
theorem spF_b {g : Nat → Int} {n a : Int} (h : a ≤ n) : a ≤ spF g n a ∧ spF g n a ≤ n ∧ (¬ soF g n a = 0 → a < spF g n a) := by
  have s := soF_b g n a
  unfold spF
  split
  · omega
  · split
    · omega
    · have := ruF_b (g := g) (n := n) (s := soF g n a) 97 (a + 1) (by omega)
      omega
theorem WC.st {g : Nat → Int} {n : Int} {c : PCu} (h0 : 0 ≤ c.2.2.1) (h : c.2.2.1 ≤ n) : WC n (stC g n c) ∧ c.2.2.1 ≤ (stC g n c).1 := by
  have a := skF_b (g := g) (n := n) 97 c.2.2.1 h
  have b := soF_b g n (skF g n 97 c.2.2.1)
  have d := spF_b (g := g) a.2
  unfold WC stC
  simp only []
  omega
theorem WC.nx {g : Nat → Int} {n : Int} {c : PCu} (h : WC n c) : WC n (stC g n c) ∧ c.1 ≤ (stC g n c).1 ∧ (¬ c.2.1 = 0 → c.1 < (stC g n c).1) := by
  have a := WC.st (g := g) (n := n) (c := c) (by have := h.1; have := h.2.1; omega) h.2.2.1
  have b := h.2.1
  have d := h.2.2.2.2.2.2
  refine ⟨a.1, by omega, fun q => ?_⟩
  have := d q
  omega
theorem siF_s {g : Nat → Int} {n : Int} {c : PCu} (h : ¬ siF g n c = 0) : c.2.1 = 3 := by
  unfold siF at h
  split at h
  · rename_i h2; exact h2.1
  · exact absurd rfl h
theorem tk_0 {n : Int} {c : PCu} (h : WC n c) : tkF c = 0 ↔ c.2.1 = 0 := by
  unfold tkF
  (repeat' split) <;> omega
theorem lv_s {s l : Int} (h : lvF s = l) (h0 : 0 ≤ l) : ¬ sgF s = 0 ∧ rkF (sgF s) = l + 1 ∧ ¬ sgF s = -11 ∧ ¬ sgF s = -10 ∧ trF (s, 0) = sgF s ∧ ¬ s = 41 ∧ ¬ s = 0 ∧ l ≤ 4 := by
  have q : s = 124 ∨ s = 38 ∨ s = 60 ∨ s = 61 ∨ s = 62 ∨ s = 43 ∨ s = 45 ∨ s = 42 ∨ s = 47 := by
    unfold lvF at h
    (repeat' split at h) <;> omega
  subst h
  rcases q with rfl | rfl | rfl | rfl | rfl | rfl | rfl | rfl | rfl <;> decide
theorem sg_lv {s : Int} (h : ¬ sgF s = 0) : 0 ≤ lvF s ∧ lvF s ≤ 4 := by
  have q : s = 124 ∨ s = 38 ∨ s = 60 ∨ s = 61 ∨ s = 62 ∨ s = 43 ∨ s = 45 ∨ s = 42 ∨ s = 47 := by
    unfold sgF at h
    (repeat' split at h) <;> omega
  rcases q with rfl | rfl | rfl | rfl | rfl | rfl | rfl | rfl | rfl <;> decide
def TopOK (l : Int) (S : List Int) : Prop := ∀ a, S.head? = some a → a = -11 ∨ rkF a ≤ l
theorem stF_top {l b : Int} {S O : List Int} (h : TopOK l S) (hb : l < b) : stF b S O = (S, O) := by
  cases S with
  | nil => rfl
  | cons a S =>
    have := h a rfl
    unfold stF
    rw [if_neg (by omega)]
theorem stF_stF {a b : Int} (h : a ≤ b) : ∀ (S O : List Int), stF a (stF b S O).1 (stF b S O).2 = stF a S O
  | [], O => rfl
  | x :: S, O => by
    by_cases q : ¬ x = -11 ∧ b ≤ rkF x
    · have e1 : stF b (x :: S) O = stF b S (x :: O) := by
        show (if _ then _ else _) = _
        rw [if_pos q]
      have e2 : stF a (x :: S) O = stF a S (x :: O) := by
        show (if _ then _ else _) = _
        rw [if_pos ⟨q.1, by omega⟩]
      rw [e1, e2]
      exact stF_stF h S (x :: O)
    · have e1 : stF b (x :: S) O = (x :: S, O) := by
        show (if _ then _ else _) = _
        rw [if_neg q]
      rw [e1]
theorem stF_eq {a b : Int} {S S' O O' : List Int} (h : a ≤ b) (e : stF b S' O' = (S, O)) : stF a S' O' = stF a S O := by
  rw [← stF_stF h S' O', e]
/-! the two ways give the same -/
def PcS (g : Nat → Int) (n q : Int) (M : Nat) : Prop := ∀ (o k : Int) (c : PCu) (out : List (Int × Int)) (a : Int) (S O : List Int) (T : Nat → Int), 0 ≤ o → o ≤ 8 → 0 ≤ k → k ≤ 8 → 7 * (8 - o) + (8 - k) < (M : Int) → noS S = k → WC n c →
  ((RD g n q M 5 o k (c, out, a, -1)).2.2.2 = -1 → ∃ D T', (RD g n q M 5 o k (c, out, a, -1)).2.1 = D ++ out ∧ Rch g n q (c, S, O, a, 1, o, k, T) ((RD g n q M 5 o k (c, out, a, -1)).1, (stF 6 S (D.map trF ++ O)).1, (stF 6 S (D.map trF ++ O)).2, (RD g n q M 5 o k (c, out, a, -1)).2.2.1, 0, o, noS (stF 6 S (D.map trF ++ O)).1, T') ∧ (∀ i : Nat, (i : Int) ≤ o → T' i = T i) ∧ WC n (RD g n q M 5 o k (c, out, a, -1)).1 ∧ c.1 < (RD g n q M 5 o k (c, out, a, -1)).1.1)
  ∧ (¬ (RD g n q M 5 o k (c, out, a, -1)).2.2.2 = -1 → Rft g n q (c, S, O, a, 1, o, k, T) (RD g n q M 5 o k (c, out, a, -1)).2.2.2)
def LvO (g : Nat → Int) (n q l o k : Int) (S O : List Int) (T : Nat → Int) (s : PSs) (out : List (Int × Int)) (b : Int) (y : PPs) : Prop :=
  ∃ D S' O' T', y.2.1 = D ++ out ∧ Rch g n q s (y.1, S', O', y.2.2.1, 0, o, k, T') ∧ stF (l + 1) S' O' = (S, D.map trF ++ O) ∧ (∀ i : Nat, (i : Int) < o → T' i = T i) ∧ (3 ≤ l → (T' o.toNat = 0 ↔ T o.toNat = 0)) ∧ (l ≤ 2 → lvF (siF g n y.1) = 2 → ¬ T' o.toNat = 0) ∧ (∀ j, l ≤ j → j ≤ 4 → ¬ j = 2 → ¬ lvF (siF g n y.1) = j) ∧ WC n y.1 ∧ b < y.1.1
def LvR (g : Nat → Int) (n q : Int) (f : PPs → PPs) (l o k : Int) : Prop := ∀ (c : PCu) (out : List (Int × Int)) (a : Int) (S O : List Int) (T : Nat → Int), noS S = k → TopOK l S → (l ≤ 2 → T o.toNat = 0) → WC n c →
  ((f (c, out, a, -1)).2.2.2 = -1 → LvO g n q l o k S O T (c, S, O, a, 1, o, k, T) out c.1 (f (c, out, a, -1))) ∧ (¬ (f (c, out, a, -1)).2.2.2 = -1 → Rft g n q (c, S, O, a, 1, o, k, T) (f (c, out, a, -1)).2.2.2)
def LvS (g : Nat → Int) (n q : Int) (M : Nat) (l : Int) : Prop := ∀ (o k : Int), 0 ≤ o → o ≤ 8 → 0 ≤ k → k ≤ 8 → 7 * (8 - o) + (8 - k) + (5 - l) < (M : Int) → LvR g n q (RD g n q M l o k) l o k
theorem noS_nn : ∀ S, 0 ≤ noS S
  | [] => Int.le_refl 0
  | a :: S => by
    have := noS_nn S
    unfold noS
    split <;> omega
theorem Lv5 {g : Nat → Int} {n q : Int} {M : Nat} (h : PcS g n q M) : LvS g n q M 5 := by
  intro o k h1 h2 h3 h4 h5 c out a S O T h6 h7 h8 h9
  obtain ⟨p1, p2⟩ := h o k c out a S O T h1 h2 h3 h4 (by omega) h6 h9
  refine ⟨fun e => ?_, p2⟩
  obtain ⟨D, T', e1, e2, e3, e4, e5⟩ := p1 e
  have et : stF 6 S (D.map trF ++ O) = (S, D.map trF ++ O) := stF_top h7 (by decide)
  rw [et] at e2
  rw [h6] at e2
  exact ⟨D, S, D.map trF ++ O, T', e1, e2, et, fun i hi => e3 i (by omega), fun _ => by rw [e3 o.toNat (by omega)], fun hl => by omega, fun j h1 h2 => by omega, e4, e5⟩
theorem Pc_step {g : Nat → Int} {n q : Int} {M : Nat} (hP : PcS g n q M) (hL : LvS g n q M 0) : PcS g n q (M + 1) := by
  intro o k c out a S O T h1 h2 h3 h4 h5 h6 h9
  have wn := WC.nx (g := g) h9
  have w0 := h9
  obtain ⟨z1, z2, z3, z4, z5, z6, z7⟩ := w0
  have nn := noS_nn S
  by_cases q1 : siF g n c = 33 ∧ k < 8
  · have eR : RD g n q (M + 1) 5 o k (c, out, a, -1) = emP 33 0 (RD g n q M 5 o (k + 1) (stC g n c, out, a, -1)) := by
      show (if (5 : Int) ≤ 5 then (if siF g n c = 33 ∧ k < 8 then _ else _) else _) = _
      rw [if_pos (by decide), if_pos q1]
      rfl
    have hs3 : c.2.1 = 3 := siF_s (g := g) (n := n) (by omega)
    have ht : ¬ tkF c = 0 := by rw [tk_0 h9]; omega
    have eS : syS g n q (c, S, O, a, 1, o, k, T) = .inl (stC g n c, -10 :: S, O, a, 1, o, k + 1, T) := by
      show sy1 g n q c S O a 1 o k T = _
      unfold sy1
      rw [if_neg (by omega), if_pos (by decide), if_pos q1]
      have : noS (-10 :: S) = k + 1 := by
        show noS S + (if (-10 : Int) = -10 then 1 else 0) = _
        rw [if_pos rfl]; omega
      rw [this]
    have hk : noS (-10 :: S) = k + 1 := by
      show noS S + (if (-10 : Int) = -10 then 1 else 0) = _
      rw [if_pos rfl]; omega
    obtain ⟨p1, p2⟩ := hP o (k + 1) (stC g n c) out a (-10 :: S) O T h1 h2 (by omega) (by omega) (by omega) hk wn.1
    rw [eR]
    refine ⟨fun e => ?_, fun e => Rft.of (Rch.st eS) (p2 e)⟩
    obtain ⟨D, T', e1, e2, e3, e4, e5⟩ := p1 e
    have et : stF 6 (-10 :: S) (D.map trF ++ O) = stF 6 S (((33, 0) :: D).map trF ++ O) := by
      show (if ¬ (-10 : Int) = -11 ∧ 6 ≤ rkF (-10) then stF 6 S (-10 :: (D.map trF ++ O)) else _) = _
      rw [if_pos (by decide)]
      rfl
    rw [et] at e2
    refine ⟨(33, 0) :: D, T', ?_, (Rch.st eS).tr e2, e3, e4, ?_⟩
    · show (33, 0) :: (RD g n q M 5 o (k + 1) (stC g n c, out, a, -1)).2.1 = _
      rw [e1]; rfl
    · show c.1 < (RD g n q M 5 o (k + 1) (stC g n c, out, a, -1)).1.1
      have := wn.2.1
      omega
  · by_cases q2 : siF g n c = 40 ∧ o < 8
    · have eR : RD g n q (M + 1) 5 o k (c, out, a, -1) = clP g n (RD g n q M 0 (o + 1) k (stC g n c, out, a, -1)) := by
        show (if (5 : Int) ≤ 5 then (if siF g n c = 33 ∧ k < 8 then _ else if siF g n c = 40 ∧ o < 8 then _ else _) else _) = _
        rw [if_pos (by decide), if_neg q1, if_pos q2]
        rfl
      have hs3 : c.2.1 = 3 := siF_s (g := g) (n := n) (by omega)
      have ht : ¬ tkF c = 0 := by rw [tk_0 h9]; omega
      have hk : noS (-11 :: S) = k := by
        show noS S + (if (-11 : Int) = -10 then 1 else 0) = _
        rw [if_neg (by decide)]; omega
      have eS : syS g n q (c, S, O, a, 1, o, k, T) = .inl (stC g n c, -11 :: S, O, a, 1, o + 1, k, upF T (o + 1).toNat 0) := by
        show sy1 g n q c S O a 1 o k T = _
        unfold sy1
        rw [if_neg (by omega), if_pos (by decide), if_neg q1, if_pos q2, hk]
      obtain ⟨p1, p2⟩ := hL (o + 1) k (by omega) (by omega) h3 h4 (by omega) (stC g n c) out a (-11 :: S) O (upF T (o + 1).toNat 0) hk (fun x hx => Or.inl (by simpa using hx.symm)) (fun _ => by show (if _ then _ else _) = _; rw [if_pos rfl]) wn.1
      rw [eR]
      generalize RD g n q M 0 (o + 1) k (stC g n c, out, a, -1) = y at p1 p2
      by_cases f : y.2.2.2 = -1
      · obtain ⟨D, S', O', T', e1, e2, e3, e4, -, e6, e7, e8, e9⟩ := p1 f
        have rc := (Rch.st eS).tr e2
        have wy := WC.nx (g := g) e8
        have er : stF 0 S' O' = (-11 :: S, D.map trF ++ O) := by
          rw [stF_eq (b := 1) (by decide) e3]
          show (if ¬ (-11 : Int) = -11 ∧ 0 ≤ rkF (-11) then _ else _) = _
          rw [if_neg (by decide)]
        by_cases s : siF g n y.1 = 41
        · have eC : clP g n y = stP g n y := by
            unfold clP
            rw [if_neg (by omega), if_pos s]
          rw [eC]
          have hy3 : y.1.2.1 = 3 := siF_s (g := g) (n := n) (by omega)
          have hty : ¬ tkF y.1 = 0 := by rw [tk_0 e8]; omega
          have eS2 : syS g n q (y.1, S', O', y.2.2.1, 0, o + 1, k, T') = .inl (stC g n y.1, (stF 6 S (D.map trF ++ O)).1, (stF 6 S (D.map trF ++ O)).2, y.2.2.1, 0, o, noS (stF 6 S (D.map trF ++ O)).1, T') := by
            show sy1 g n q y.1 S' O' y.2.2.1 0 (o + 1) k T' = _
            unfold sy1
            rw [if_neg (by omega), if_neg (by decide), if_pos ⟨s, by omega⟩, er, show o + 1 - 1 = o by omega]
            rfl
          refine ⟨fun _ => ⟨D, T', e1, rc.tr (Rch.st eS2), fun i hi => ?_, wy.1, ?_⟩, fun e => absurd f e⟩
          · rw [e4 i (by omega)]
            show (if _ then _ else _) = _
            rw [if_neg (by omega)]
          · show c.1 < (stC g n y.1).1
            have := wy.2.1
            have := wn.2.1
            omega
        · have eC : clP g n y = ftP y := by
            unfold clP
            rw [if_neg (by omega), if_neg s]
          rw [eC]
          have hf : (ftP y).2.2.2 = y.1.1 := rfl
          rw [hf]
          refine ⟨fun e => by have := e8.1; omega, fun _ => Rft.of rc ?_⟩
          by_cases ty : tkF y.1 = 0
          · have eS2 : syS g n q (y.1, S', O', y.2.2.1, 0, o + 1, k, T') = .inr (y.1.1, [], 0) := by
              show sy1 g n q y.1 S' O' y.2.2.1 0 (o + 1) k T' = _
              unfold sy1
              rw [if_pos ⟨rfl, ty⟩, if_neg (by omega)]
            exact Rft.dn eS2
          · have hz : sgF (siF g n y.1) = 0 ∨ (rkF (sgF (siF g n y.1)) = 3 ∧ ¬ T' (o + 1).toNat = 0) := by
              by_cases hs : sgF (siF g n y.1) = 0
              · exact Or.inl hs
              · have hl := sg_lv hs
                by_cases h2 : lvF (siF g n y.1) = 2
                · exact Or.inr ⟨(lv_s h2 (by decide)).2.1, e6 (by decide) h2⟩
                · exact absurd rfl (e7 _ hl.1 hl.2 h2)
            have eS2 : syS g n q (y.1, S', O', y.2.2.1, 0, o + 1, k, T') = .inr (y.1.1, [], 0) := by
              show sy1 g n q y.1 S' O' y.2.2.1 0 (o + 1) k T' = _
              unfold sy1
              rw [if_neg (by omega), if_neg (by decide), if_neg (by omega), if_pos hz]
            exact Rft.dn eS2
      · have eC : clP g n y = y := by
          unfold clP
          rw [if_pos f]
        rw [eC]
        exact ⟨fun e => absurd e f, fun e => Rft.of (Rch.st eS) (p2 e)⟩
    · have eR : RD g n q (M + 1) 5 o k (c, out, a, -1) = opP g n q (c, out, a, -1) := by
        show (if (5 : Int) ≤ 5 then (if siF g n c = 33 ∧ k < 8 then _ else if siF g n c = 40 ∧ o < 8 then _ else _) else _) = _
        rw [if_pos (by decide), if_neg q1, if_neg q2]
      rw [eR]
      by_cases t2 : tkF c = 2
      · have u : c.2.1 = 2 ∧ ¬ c.2.2.2 = 1 ∧ c.2.2.1 - c.1 ≤ 4 := by
          unfold tkF at t2
          (repeat' split at t2) <;> omega
        have eO : opP g n q (c, out, a, -1) = (stC g n c, (0, numF g c.1.toNat (c.2.2.1 - c.1).toNat) :: out, a + 1, -1) := by
          unfold opP
          rw [if_neg u.2.1, if_pos ⟨u.1, u.2.2⟩]
        have eV : opV g q c = trF (0, numF g c.1.toNat (c.2.2.1 - c.1).toNat) := by
          unfold opV
          rw [if_pos t2]
          rfl
        have eS : syS g n q (c, S, O, a, 1, o, k, T) = .inl (stC g n c, (stF 6 S (trF (0, numF g c.1.toNat (c.2.2.1 - c.1).toNat) :: O)).1, (stF 6 S (trF (0, numF g c.1.toNat (c.2.2.1 - c.1).toNat) :: O)).2, a + 1, 0, o, noS (stF 6 S (trF (0, numF g c.1.toNat (c.2.2.1 - c.1).toNat) :: O)).1, T) := by
          show sy1 g n q c S O a 1 o k T = _
          unfold sy1
          rw [if_neg (by omega), if_pos (by decide), if_neg q1, if_neg q2, if_pos (Or.inl t2), eV]
        rw [eO]
        exact ⟨fun _ => ⟨[(0, numF g c.1.toNat (c.2.2.1 - c.1).toNat)], T, rfl, Rch.st eS, fun _ _ => rfl, wn.1, wn.2.2 (by omega)⟩, fun e => absurd rfl e⟩
      · by_cases t1 : tkF c = 1 ∧ c.2.2.1 - c.1 = 1 ∧ 0 ≤ nmF q (g c.1.toNat)
        · have u : c.2.1 = 1 ∧ ¬ c.2.2.2 = 1 := by
            have t1 := t1.1
            unfold tkF at t1
            (repeat' split at t1) <;> omega
          have eO : opP g n q (c, out, a, -1) = (stC g n c, (1, nmF q (g c.1.toNat)) :: out, a + 1, -1) := by
            unfold opP
            have hv : ¬ nmF q (g c.1.toNat) = -1 := by have := t1.2.2; omega
            rw [if_neg u.2, if_neg (fun e => by have e1 : c.2.1 = 2 := e.1; omega), if_pos ⟨u.1, t1.2.1, hv⟩]
          have eV : opV g q c = trF (1, nmF q (g c.1.toNat)) := by
            unfold opV
            rw [if_neg t2]
            rfl
          have eS : syS g n q (c, S, O, a, 1, o, k, T) = .inl (stC g n c, (stF 6 S (trF (1, nmF q (g c.1.toNat)) :: O)).1, (stF 6 S (trF (1, nmF q (g c.1.toNat)) :: O)).2, a + 1, 0, o, noS (stF 6 S (trF (1, nmF q (g c.1.toNat)) :: O)).1, T) := by
            show sy1 g n q c S O a 1 o k T = _
            unfold sy1
            rw [if_neg (by omega), if_pos (by decide), if_neg q1, if_neg q2, if_pos (Or.inr t1), eV]
          rw [eO]
          exact ⟨fun _ => ⟨[(1, nmF q (g c.1.toNat))], T, rfl, Rch.st eS, fun _ _ => rfl, wn.1, wn.2.2 (by omega)⟩, fun e => absurd rfl e⟩
        · have hn : -1 ≤ nmF q (g c.1.toNat) := by
            unfold nmF
            (repeat' split) <;> omega
          have eO : opP g n q (c, out, a, -1) = (c, out, a, c.1) := by
            unfold opP
            by_cases l1 : c.2.2.2 = 1
            · rw [if_pos l1]; rfl
            · rw [if_neg l1, if_neg ?_, if_neg ?_]
              · rfl
              · intro e
                apply t1
                have e3 : ¬ nmF q (g c.1.toNat) = -1 := e.2.2
                refine ⟨?_, e.2.1, by omega⟩
                unfold tkF
                rw [if_pos e.1, if_neg l1]
              · intro e
                apply t2
                have e1 := e.1
                have e2 := e.2
                simp only at e1 e2
                unfold tkF
                rw [if_neg (by omega), if_pos e1, if_neg (by omega)]
          have eS : syS g n q (c, S, O, a, 1, o, k, T) = .inr (c.1, [], 0) := by
            show sy1 g n q c S O a 1 o k T = _
            unfold sy1
            rw [if_neg (by omega), if_pos (by decide), if_neg q1, if_neg q2, if_neg (fun e => e.elim t2 t1)]
          rw [eO]
          exact ⟨fun e => by have e1 : c.1 = -1 := e; omega, fun _ => Rft.dn eS⟩
theorem LP_f {g : Nat → Int} {n l : Int} {f : PPs → PPs} {x : PPs} (h : ¬ x.2.2.2 = -1) : ∀ i, LPx g n f l i x = x
  | 0 => rfl
  | i + 1 => by
    show (if x.2.2.2 = -1 ∧ _ then _ else x) = x
    rw [if_neg (fun e => h e.1)]
theorem LP_lem {g : Nat → Int} {n q l o k : Int} {f : PPs → PPs} {S : List Int} {T : Nat → Int} {s0 : PSs} {b : Int} (hl : 0 ≤ l ∧ l ≤ 4) (ho : 0 ≤ o) (hf : LvR g n q f (l + 1) o k) (hS : noS S = k) (hT : TopOK l S) : ∀ (i : Nat) (c : PCu) (out : List (Int × Int)) (a : Int) (S' O' X : List Int) (T' : Nat → Int), Rch g n q s0 (c, S', O', a, 0, o, k, T') → stF (l + 1) S' O' = (S, X) → (∀ i : Nat, (i : Int) < o → T' i = T i) → (3 ≤ l → (T' o.toNat = 0 ↔ T o.toNat = 0)) → (∀ j, l + 1 ≤ j → j ≤ 4 → ¬ j = 2 → ¬ lvF (siF g n c) = j) → (l ≤ 1 → lvF (siF g n c) = 2 → ¬ T' o.toNat = 0) → (l = 2 → (i = 0 ∧ ¬ T' o.toNat = 0) ∨ (i = 1 ∧ T' o.toNat = 0)) → (¬ l = 2 → n - c.1 < (i : Int)) → WC n c → b < c.1 →
    ((LPx g n f l i (c, out, a, -1)).2.2.2 = -1 → LvO g n q l o k S X T s0 out b (LPx g n f l i (c, out, a, -1))) ∧ (¬ (LPx g n f l i (c, out, a, -1)).2.2.2 = -1 → Rft g n q s0 (LPx g n f l i (c, out, a, -1)).2.2.2)
  | 0, c, out, a, S', O', X, T', rch, st, tl, t3, tE, t2, t2', bd, w, hb => by
    refine ⟨fun _ => ⟨[], S', O', T', rfl, rch, st, tl, t3, fun h2 e => ?_, fun j j1 j2 j3 e => ?_, w, hb⟩, fun e => absurd rfl e⟩
    · by_cases u : l = 2
      · rcases t2' u with v | v
        · exact v.2
        · exact absurd v.1 (by decide)
      · exact t2 (by omega) e
    · by_cases u : j = l
      · have := bd (by omega)
        have := w.2.1
        have := w.2.2.1
        simp only [Int.ofNat_zero] at *
        omega
      · exact tE j (by omega) j2 j3 e
  | i + 1, c, out, a, S', O', X, T', rch, st, tl, t3, tE, t2, t2', bd, w, hb => by
    by_cases u : lvF (siF g n c) = l
    · have eL : LPx g n f l (i + 1) (c, out, a, -1) = LPx g n f l i (emP (siF g n c) 0 (f (stC g n c, out, a, -1))) := by
        show (if (-1 : Int) = -1 ∧ lvF (siF g n c) = l then _ else _) = _
        rw [if_pos ⟨rfl, u⟩]
        rfl
      rw [eL]
      obtain ⟨v1, v2, v3, v4, v5, v6, v7, v8⟩ := lv_s u hl.1
      have hs3 : c.2.1 = 3 := siF_s (g := g) (n := n) v7
      have ht : ¬ tkF c = 0 := by rw [tk_0 w]; omega
      have wn := WC.nx (g := g) w
      have hz : ¬ (sgF (siF g n c) = 0 ∨ (rkF (sgF (siF g n c)) = 3 ∧ ¬ T' o.toNat = 0)) := by
        intro e
        rcases e with e | e
        · exact v1 e
        · rcases t2' (by omega) with x | x
          · exact absurd x.1 (by omega)
          · exact e.2 x.2
      obtain ⟨V, hV⟩ : ∃ V : Int, V = (if rkF (sgF (siF g n c)) = 3 ∨ (3 < rkF (sgF (siF g n c)) ∧ ¬ T' o.toNat = 0) then 1 else 0) := ⟨_, rfl⟩
      have eS : syS g n q (c, S', O', a, 0, o, k, T') = .inl (stC g n c, sgF (siF g n c) :: S, X, a, 1, o, k, upF T' o.toNat V) := by
        show sy1 g n q c S' O' a 0 o k T' = _
        unfold sy1
        rw [if_neg (by omega), if_neg (by decide), if_neg (by omega), if_neg hz, ← hV, v2, st]
      have eT : upF T' o.toNat V o.toNat = V := by
        show (if _ then _ else _) = _
        rw [if_pos rfl]
      have eT2 : ∀ j : Nat, (j : Int) < o → upF T' o.toNat V j = T' j := by
        intro j hj
        show (if _ then _ else _) = _
        rw [if_neg (by omega)]
      have hk : noS (sgF (siF g n c) :: S) = k := by
        show noS S + (if _ then _ else _) = _
        rw [if_neg v4]
        omega
      have hTop : TopOK (l + 1) (sgF (siF g n c) :: S) := by
        intro x hx
        have hx2 : sgF (siF g n c) = x := by simpa using hx
        rw [← hx2]
        exact Or.inr (by omega)
      obtain ⟨p1, p2⟩ := hf (stC g n c) out a (sgF (siF g n c) :: S) X (upF T' o.toNat V) hk hTop (fun h => by rw [eT, hV, if_neg (by omega)]) wn.1
      generalize f (stC g n c, out, a, -1) = y at p1 p2
      by_cases fy : y.2.2.2 = -1
      · obtain ⟨D, S1, O1, T1, e1, e2, e3, e4, e5, e6, e7, e8, e9⟩ := p1 fy
        have ey : emP (siF g n c) 0 y = (y.1, (siF g n c, 0) :: y.2.1, y.2.2.1, -1) := by
          unfold emP
          rw [fy]
        rw [ey, e1]
        have st1 : stF (l + 1) S1 O1 = (S, trF (siF g n c, 0) :: (D.map trF ++ X)) := by
          rw [stF_eq (by omega) e3]
          show (if ¬ sgF (siF g n c) = -11 ∧ l + 1 ≤ rkF (sgF (siF g n c)) then stF (l + 1) S (sgF (siF g n c) :: (D.map trF ++ X)) else _) = _
          rw [if_pos ⟨v3, by omega⟩, stF_top hT (by omega), v5]
        have ih := LP_lem (b := b) hl ho hf hS hT i y.1 ((siF g n c, 0) :: (D ++ out)) y.2.2.1 S1 O1 (trF (siF g n c, 0) :: (D.map trF ++ X)) T1 (rch.tr ((Rch.st eS).tr e2)) st1 (fun j hj => by rw [e4 j hj, eT2 j hj, tl j hj]) (fun h => by
            rw [e5 (by omega), eT, ← t3 h, hV]
            by_cases x : T' o.toNat = 0
            · rw [if_neg (by omega)]; exact ⟨fun _ => x, fun _ => rfl⟩
            · rw [if_pos (Or.inr ⟨by omega, x⟩)]; exact ⟨fun e => absurd e (by decide), fun e => absurd e x⟩) (fun j j1 j2 j3 => e7 j j1 j2 j3) (fun h e => e6 (by omega) e) (fun h => by
            rcases t2' h with x | x
            · exact absurd x.1 (by omega)
            · refine Or.inl ⟨by omega, fun e => ?_⟩
              have e0 := (e5 (by omega)).mp e
              rw [eT, hV, if_pos (Or.inl (by omega))] at e0
              exact absurd e0 (by decide)) (fun h => by
            have := bd h
            have := wn.2.1
            omega) e8 (by have := wn.2.1; omega)
        refine ⟨fun e => ?_, ih.2⟩
        obtain ⟨D2, S2, O2, T2, g1, g2, g3, g4⟩ := ih.1 e
        refine ⟨D2 ++ (siF g n c, 0) :: D, S2, O2, T2, ?_, g2, ?_, g4⟩
        · rw [g1]; simp
        · rw [g3]; simp
      · have fe : ¬ (emP (siF g n c) 0 y).2.2.2 = -1 := fy
        rw [LP_f fe]
        exact ⟨fun e => absurd e fe, fun _ => Rft.of (rch.tr (Rch.st eS)) (p2 fy)⟩
    · have eL : LPx g n f l (i + 1) (c, out, a, -1) = (c, out, a, -1) := by
        show (if (-1 : Int) = -1 ∧ lvF (siF g n c) = l then _ else _) = _
        rw [if_neg (fun e => u e.2)]
      rw [eL]
      refine ⟨fun _ => ⟨[], S', O', T', rfl, rch, st, tl, t3, fun h2 e => ?_, fun j j1 j2 j3 e => ?_, w, hb⟩, fun e => absurd rfl e⟩
      · by_cases v : l = 2
        · exact absurd (e.trans v.symm) u
        · exact t2 (by omega) e
      · by_cases v : j = l
        · exact u (e.trans v)
        · exact tE j (by omega) j2 j3 e
theorem Lv_step {g : Nat → Int} {n q : Int} {M : Nat} {l : Int} (hn : n ≤ 96) (hl : 0 ≤ l ∧ l ≤ 4) (h : LvS g n q M (l + 1)) : LvS g n q (M + 1) l := by
  intro o k h1 h2 h3 h4 h5 c out a S O T h6 h7 h8 h9
  have hf := h o k h1 h2 h3 h4 (by omega)
  have eR : RD g n q (M + 1) l o k (c, out, a, -1) = LPx g n (RD g n q M (l + 1) o k) l (if l = 2 then 1 else 96) (RD g n q M (l + 1) o k (c, out, a, -1)) := by
    show (if (5 : Int) ≤ l then _ else _) = _
    rw [if_neg (by omega)]
  rw [eR]
  obtain ⟨p1, p2⟩ := hf c out a S O T h6 (fun x hx => (h7 x hx).imp id (fun e => by omega)) (fun e => h8 (by omega)) h9
  generalize ef : RD g n q M (l + 1) o k = f at hf p1 p2
  generalize ey : f (c, out, a, -1) = y at p1 p2
  by_cases fy : y.2.2.2 = -1
  · obtain ⟨D, S1, O1, T1, e1, e2, e3, e4, e5, e6, e7, e8, e9⟩ := p1 fy
    have ey2 : y = (y.1, D ++ out, y.2.2.1, -1) := by
      rw [← e1, ← fy]
    have z1 := h9.1
    have st1 : stF (l + 1) S1 O1 = (S, D.map trF ++ O) := by
      rw [stF_eq (by omega) e3, stF_top h7 (by omega)]
    have ih := LP_lem (b := c.1) hl h1 hf h6 h7 (T := T) (if l = 2 then 1 else 96) y.1 (D ++ out) y.2.2.1 S1 O1 (D.map trF ++ O) T1 e2 st1 e4 (fun e => e5 (by omega)) e7 (fun e => e6 (by omega)) (fun e => by
        rw [if_pos e]
        refine Or.inr ⟨rfl, ?_⟩
        rw [e5 (by omega)]
        exact h8 (by omega)) (fun e => by rw [if_neg e]; show n - y.1.1 < 96; omega) e8 e9
    rw [ey2]
    refine ⟨fun e => ?_, ih.2⟩
    obtain ⟨D2, S2, O2, T2, g1, g2, g3, g4⟩ := ih.1 e
    refine ⟨D2 ++ D, S2, O2, T2, ?_, g2, ?_, g4⟩
    · rw [g1]; simp
    · rw [g3]; simp
  · rw [LP_f fy]
    exact ⟨fun e => absurd e fy, p2⟩
theorem rd_main {g : Nat → Int} {n q : Int} (hn : n ≤ 96) : ∀ M : Nat, PcS g n q M ∧ ∀ l : Int, 0 ≤ l → l ≤ 5 → LvS g n q M l
  | 0 => ⟨fun o k c out a S O T h1 h2 h3 h4 h5 => by exfalso; omega, fun l l1 l2 o k h1 h2 h3 h4 h5 => by exfalso; omega⟩
  | M + 1 => by
    obtain ⟨hP, hL⟩ := rd_main hn M
    have hP1 := Pc_step hP (hL 0 (by decide) (by decide))
    refine ⟨hP1, fun l l1 l2 => ?_⟩
    by_cases e : l = 5
    · subst e
      exact Lv5 hP1
    · exact Lv_step hn ⟨l1, by omega⟩ (hL (l + 1) (by omega) (by omega))
theorem rd_sy {g : Nat → Int} {n q : Int} (hn : n ≤ 96) {c : PCu} (w : WC n c) {T : Nat → Int} (hT : T 0 = 0) {M : Nat} (hM : 70 ≤ M) : ((RD g n q M 0 0 0 (c, [], 0, -1)).2.2.2 = -1 → (RD g n q M 0 0 0 (c, [], 0, -1)).1.2.1 = 0 → ∃ k, syr g n q k (c, [], [], 0, 1, 0, 0, T) = some (-1, (RD g n q M 0 0 0 (c, [], 0, -1)).2.1.map trF, (RD g n q M 0 0 0 (c, [], 0, -1)).2.2.1)) ∧ ((RD g n q M 0 0 0 (c, [], 0, -1)).2.2.2 = -1 → ¬ (RD g n q M 0 0 0 (c, [], 0, -1)).1.2.1 = 0 → Rft g n q (c, [], [], 0, 1, 0, 0, T) (RD g n q M 0 0 0 (c, [], 0, -1)).1.1) ∧ (¬ (RD g n q M 0 0 0 (c, [], 0, -1)).2.2.2 = -1 → Rft g n q (c, [], [], 0, 1, 0, 0, T) (RD g n q M 0 0 0 (c, [], 0, -1)).2.2.2) := by
  obtain ⟨p1, p2⟩ := (rd_main (g := g) (q := q) hn M).2 0 (by decide) (by decide) 0 0 (by decide) (by decide) (by decide) (by decide) (by omega) c [] 0 [] [] T rfl (fun x hx => by cases hx) (fun _ => hT) w
  generalize RD g n q M 0 0 0 (c, [], 0, -1) = y at p1 p2
  have key : y.2.2.2 = -1 → ∃ S' O' T', Rch g n q (c, [], [], 0, 1, 0, 0, T) (y.1, S', O', y.2.2.1, 0, 0, 0, T') ∧ stF 1 S' O' = ([], y.2.1.map trF) ∧ (lvF (siF g n y.1) = 2 → ¬ T' 0 = 0) ∧ (∀ j, 0 ≤ j → j ≤ 4 → ¬ j = 2 → ¬ lvF (siF g n y.1) = j) ∧ WC n y.1 := by
    intro e
    obtain ⟨D, S1, O1, T1, e1, e2, e3, e4, e5, e6, e7, e8, e9⟩ := p1 e
    refine ⟨S1, O1, T1, e2, ?_, fun h => e6 (by decide) h, e7, e8⟩
    rw [e1]
    simpa using e3
  refine ⟨fun e1 e2 => ?_, fun e1 e2 => ?_, p2⟩
  · obtain ⟨S', O', T', r, s, -, -, w2⟩ := key e1
    have eS : syS g n q (y.1, S', O', y.2.2.1, 0, 0, 0, T') = .inr (-1, y.2.1.map trF, y.2.2.1) := by
      show sy1 g n q y.1 S' O' y.2.2.1 0 0 0 T' = _
      unfold sy1
      have e0 : stF 0 S' O' = ([], y.2.1.map trF) := by
        rw [stF_eq (b := 1) (by decide) s]
        rfl
      rw [if_pos ⟨rfl, (tk_0 w2).mpr e2⟩, if_pos rfl, e0]
    exact r 1 _ (syr_dn eS)
  · obtain ⟨S', O', T', r, s, t2, tE, w2⟩ := key e1
    have hz : sgF (siF g n y.1) = 0 ∨ (rkF (sgF (siF g n y.1)) = 3 ∧ ¬ T' 0 = 0) := by
      by_cases hs : sgF (siF g n y.1) = 0
      · exact Or.inl hs
      · have hl := sg_lv hs
        by_cases h2 : lvF (siF g n y.1) = 2
        · exact Or.inr ⟨(lv_s h2 (by decide)).2.1, t2 h2⟩
        · exact absurd rfl (tE _ hl.1 hl.2 h2)
    have eS : syS g n q (y.1, S', O', y.2.2.1, 0, 0, 0, T') = .inr (y.1.1, [], 0) := by
      show sy1 g n q y.1 S' O' y.2.2.1 0 0 0 T' = _
      unfold sy1
      have hz2 : sgF (siF g n y.1) = 0 ∨ (rkF (sgF (siF g n y.1)) = 3 ∧ ¬ T' (0 : Int).toNat = 0) := hz
      rw [if_neg (fun e => e2 ((tk_0 w2).mp e.2)), if_neg (by decide), if_neg (fun e => absurd e.2 (by decide)), if_pos hz2]
    exact Rft.of r (Rft.dn eS)
def wdF (j : Nat) (i : Int) : Int := if j = 3 then (if i = 0 then 100 else if i = 1 then 97 else if i = 2 then 114 else 107) else if j = 4 then (if i = 0 then 102 else 101) else (if i = 0 then 102 else if i = 1 then 105 else if i = 2 then 110 else 101)
def WDp (g : Nat → Int) (j : Nat) (s i : Int) : Prop := ∀ k : Int, 0 ≤ k → k < i → g (s + k).toNat = wdF j k
theorem WDp.sn {g : Nat → Int} {j : Nat} {s i : Int} (h : WDp g j s i) (e : g (s + i).toNat = wdF j i) : WDp g j s (i + 1) := by
  intro k h1 h2
  by_cases q : k = i
  · subst q; exact e
  · exact h k h1 (by omega)
def kyW (g : Nat → Int) (c : PCu) (j : Nat) (w : Int) : Prop := c.2.1 = 1 ∧ c.2.2.1 - c.1 = w ∧ WDp g j c.1 w
def KYp (g : Nat → Int) (c : PCu) (z : Int) : Prop := (z = 0 ∧ kyW g c 3 4) ∨ (z = 1 ∧ ¬ kyW g c 3 4 ∧ kyW g c 4 3) ∨ (z = 2 ∧ ¬ kyW g c 3 4 ∧ ¬ kyW g c 4 3 ∧ kyW g c 5 4) ∨ (z = -1 ∧ ¬ kyW g c 3 4 ∧ ¬ kyW g c 4 3 ∧ ¬ kyW g c 5 4)
end
section
/-! ===== the reference's reader as a function ===== -/
def ls1 (f : Nat → Int) : Nat → List Int
  | 0 => []
  | h + 1 => f h :: ls1 f h
theorem ls1_congr {f f' : Nat → Int} : ∀ {n : Nat}, (∀ j, j < n → f j = f' j) → ls1 f n = ls1 f' n
  | 0, _ => rfl
  | n + 1, h => by
    unfold ls1
    rw [ls1_congr (fun j hj => h j (by omega)), h n (by omega)]
def stR (t : TS) : List Int := ls1 (tA t 79) (tI t 68 22).toNat
def coR (t : TS) : List Int := ls1 (tA t 78) (tI t 68 19).toNat
def SKp (g : Nat → Int) (n a b : Int) : Prop := ∀ i : Int, a ≤ i → i < b → i < n ∧ g i.toNat = 32
def RUp (g : Nat → Int) (n s a b : Int) : Prop := ∀ i : Int, a ≤ i → i < b → i < n ∧ soF g n i = s
theorem SKp.sn {g : Nat → Int} {n a b c : Int} (h : SKp g n a b) (h1 : b < n) (h2 : g b.toNat = 32) (hc : c = b + 1) : SKp g n a c := by
  intro i i1 i2
  by_cases e : i = b
  · subst e; exact ⟨h1, h2⟩
  · exact h i i1 (by omega)
theorem RUp.sn {g : Nat → Int} {n s a b c : Int} (h : RUp g n s a b) (h1 : b < n) (h2 : soF g n b = s) (hc : c = b + 1) : RUp g n s a c := by
  intro i i1 i2
  by_cases e : i = b
  · subst e; exact ⟨h1, h2⟩
  · exact h i i1 (by omega)
theorem skF_e {g : Nat → Int} {n b : Int} : ∀ (k : Nat) (a : Int), a ≤ b → b - a ≤ (k : Int) → SKp g n a b → ¬ (b < n ∧ g b.toNat = 32) → skF g n k a = b
  | 0, a, h1, h2, _, _ => by
    show a = b
    have : ((0 : Nat) : Int) = 0 := rfl
    omega
  | k + 1, a, h1, h2, h3, h4 => by
    by_cases e : a = b
    · subst e
      show (if _ then _ else _) = _
      rw [if_neg h4]
    · show (if _ then _ else _) = _
      rw [if_pos (h3 a (by omega) (by omega))]
      exact skF_e k (a + 1) (by omega) (by omega) (fun i i1 i2 => h3 i (by omega) i2) h4
theorem ruF_e {g : Nat → Int} {n s b : Int} : ∀ (k : Nat) (a : Int), a ≤ b → b - a ≤ (k : Int) → RUp g n s a b → ¬ (b < n ∧ soF g n b = s) → ruF g n s k a = b
  | 0, a, h1, h2, _, _ => by
    show a = b
    have : ((0 : Nat) : Int) = 0 := rfl
    omega
  | k + 1, a, h1, h2, h3, h4 => by
    by_cases e : a = b
    · subst e
      show (if _ then _ else _) = _
      rw [if_neg h4]
    · show (if _ then _ else _) = _
      rw [if_pos (h3 a (by omega) (by omega))]
      exact ruF_e k (a + 1) (by omega) (by omega) (fun i i1 i2 => h3 i (by omega) i2) h4
theorem sp_o {g : Nat → Int} {n a b : Int} (h : (soF g n a = 0 ∧ b = a) ∨ (soF g n a = 3 ∧ b = a + 1)) : b = spF g n a := by
  unfold spF
  rcases h with h | h
  · rw [if_pos h.1]; exact h.2
  · rw [if_neg (by omega), if_pos h.1]; exact h.2
theorem sp_w {g : Nat → Int} {n a b : Int} (h : soF g n a = 1 ∨ soF g n a = 2) (r : RUp g n (soF g n a) (a + 1) b) (h1 : a + 1 ≤ b) (h2 : b ≤ a + 98) (h3 : ¬ (b < n ∧ soF g n b = soF g n a)) : b = spF g n a := by
  unfold spF
  rw [if_neg (by omega), if_neg (by omega)]
  exact (ruF_e 97 (a + 1) h1 (by have : ((97 : Nat) : Int) = 97 := rfl; omega) r h3).symm
theorem sp_w2 {g : Nat → Int} {n a b s : Int} (hs : soF g n a = s) (h : s = 1 ∨ s = 2) (r : RUp g n s a b) (h1 : a + 1 ≤ b) (h2 : b ≤ a + 98) (h3 : ¬ (b < n ∧ soF g n b = s)) : b = spF g n a := by
  subst hs
  exact sp_w h (fun i i1 i2 => r i (by omega) i2) h1 h2 h3
theorem so1_iff {g : Nat → Int} {n k : Int} : (k < n ∧ 97 ≤ g k.toNat ∧ g k.toNat ≤ 122) ↔ soF g n k = 1 := by
  unfold soF
  (repeat' split) <;> omega
theorem so2_iff {g : Nat → Int} {n k : Int} : (k < n ∧ 48 ≤ g k.toNat ∧ g k.toNat ≤ 57) ↔ soF g n k = 2 := by
  unfold soF
  (repeat' split) <;> omega
def NFp (g : Nat → Int) (a n v : Int) : Prop := n - a ≤ 4 → v = numF g a.toNat (n - a).toNat
theorem nf_0 {g : Nat → Int} {a n v : Int} (h : n = a) (hv : v = 0) : NFp g a n v := by
  intro _
  rw [hv, show (n - a).toNat = 0 by omega]
  rfl
theorem nf_s {g : Nat → Int} {a n n' v v' : Int} (h : NFp g a n v) (h0 : 0 ≤ a ∧ a ≤ n) (h4 : n - a < 4) (e : v' = 10 * v + g n.toNat - 48) (hn : n' = n + 1) : NFp g a n' v' := by
  intro _
  rw [hn, show (n + 1 - a).toNat = (n - a).toNat + 1 by omega]
  show v' = 10 * numF g a.toNat (n - a).toNat + g (a.toNat + (n - a).toNat) - 48
  rw [← h (by omega), show a.toNat + (n - a).toNat = n.toNat by omega]
  exact e
theorem nf_k {g : Nat → Int} {a n n' v' : Int} (h4 : 4 ≤ n - a) (hn : n' = n + 1) : NFp g a n' v' := by
  intro q
  omega
def GO (t : TS) (c : PCu) : Prop := tI t 68 10 = c.2.2.1 ∧ (c.2.1 = 1 ∨ c.2.1 = 2 → tI t 68 14 = c.2.2.1) ∧ (c.2.1 = 3 → tI t 68 14 < c.2.2.1) ∧ 1 ≤ c.2.1 ∧ c.2.1 ≤ 3
def CRx (t : TS) (c : PCu) : Prop := (tI t 68 11 = c.1 ∧ tI t 68 10 = c.2.2.1 ∧ tI t 68 12 = tkF c) ∧ ((tkF c = 1 ∨ tkF c = 3) → tI t 68 13 = tA t 75 c.1.toNat) ∧ (tkF c = 2 → tI t 68 13 = numF (tA t 75) c.1.toNat (c.2.2.1 - c.1).toNat) ∧ (c.2.1 = 1 ∨ c.2.1 = 2 → tI t 68 14 = c.2.2.1) ∧ (c.2.1 = 3 → tI t 68 14 < c.2.2.1)
theorem CRx.go {t : TS} {c : PCu} {n : Int} (h : CRx t c) (w : WC n c) (h0 : ¬ c.2.1 = 0) : GO t c := ⟨h.1.2.1, h.2.2.2.1, h.2.2.2.2, by have := w.2.2.2.1; omega, w.2.2.2.2.1⟩
theorem CRx.mv {t u : TS} {c : PCu} (h : CRx t c) (h10 : tI u 68 10 = tI t 68 10) (h11 : tI u 68 11 = tI t 68 11) (h12 : tI u 68 12 = tI t 68 12) (h13 : tI u 68 13 = tI t 68 13) (h14 : tI u 68 14 = tI t 68 14) (h75 : tA u 75 = tA t 75) : CRx u c := by
  unfold CRx
  rw [h10, h11, h12, h13, h14, h75]
  exact h
theorem CRx.fr {t u : TS} {c : PCu} {S : List (Nat × Nat)} (h : CRx t c) (f : Fr S t u) (h10 : (68, 10) ∉ S) (h11 : (68, 11) ∉ S) (h12 : (68, 12) ∉ S) (h13 : (68, 13) ∉ S) (h14 : (68, 14) ∉ S) (h75 : (75, 100) ∉ S) : CRx u c := h.mv (f.1 _ _ h10) (f.1 _ _ h11) (f.1 _ _ h12) (f.1 _ _ h13) (f.1 _ _ h14) (funext (f.2.1 75 h75))
theorem CRx.uI {t u : TS} {c : PCu} {f : Nat} {z : Int} (h : CRx t c) (e : u = uI t 68 f z) (hf : f < 10 ∨ 14 < f) : CRx u c := h.mv (by rw [e, tI_uI, if_neg (by omega)]) (by rw [e, tI_uI, if_neg (by omega)]) (by rw [e, tI_uI, if_neg (by omega)]) (by rw [e, tI_uI, if_neg (by omega)]) (by rw [e, tI_uI, if_neg (by omega)]) (by rw [e, tA_uI])
theorem CRx.uA {t u : TS} {c : PCu} {b i : Nat} {z : Int} (h : CRx t c) (e : u = uA t b i z) (hf : ¬ 75 = b) : CRx u c := h.mv (by rw [e]; rfl) (by rw [e]; rfl) (by rw [e]; rfl) (by rw [e]; rfl) (by rw [e]; rfl) (by funext j; rw [e, tA_uA, if_neg (fun q => hf q.1)])
theorem CRx.si {t : TS} {c : PCu} {x : Int} (h : CRx t c) (w : WC (tI t 68 9) c) (hx : ¬ x = 0) : siF (tA t 75) (tI t 68 9) c = x ↔ (tI t 68 12 = 3 ∧ tI t 68 13 = x) := by
  have e := h.1.2.2
  have w1 := w.2.1
  have w2 := w.2.2.1
  have w7 := w.2.2.2.2.2.2
  have e3 : tkF c = 3 ↔ c.2.1 = 3 := by
    unfold tkF
    (repeat' split) <;> omega
  unfold siF
  by_cases q : c.2.1 = 3
  · have q2 := w7 (by omega)
    rw [if_pos ⟨q, by omega⟩, ← h.2.1 (Or.inr (e3.mpr q))]
    have := e3.mpr q
    omega
  · rw [if_neg (fun k => q k.1)]
    constructor
    · intro k; exact absurd k.symm hx
    · intro k; exact absurd (e3.mp (by omega)) q
theorem cr_mk {t u : TS} {c : PCu} (g : GO t c) (h75 : tA u 75 = tA t 75) (hA : tI t 68 10 ≤ skF (tA t 75) (tI t 68 9) 97 (tI t 68 10)) (e11 : tI u 68 11 = skF (tA t 75) (tI t 68 9) 97 (tI t 68 10)) (h : (soF (tA t 75) (tI t 68 9) (tI u 68 11) = 0 ∧ tI u 68 10 = tI u 68 11 ∧ tI u 68 12 = 0) ∨ (soF (tA t 75) (tI t 68 9) (tI u 68 11) = 1 ∧ tI u 68 10 = spF (tA t 75) (tI t 68 9) (tI u 68 11) ∧ tI u 68 14 = tI u 68 10 ∧ tI u 68 13 = tA t 75 (tI u 68 11).toNat ∧ ((tI u 68 11 = tI t 68 14 ∧ tI u 68 12 = 4) ∨ (¬ tI u 68 11 = tI t 68 14 ∧ tI u 68 12 = 1))) ∨ (soF (tA t 75) (tI t 68 9) (tI u 68 11) = 2 ∧ tI u 68 10 = spF (tA t 75) (tI t 68 9) (tI u 68 11) ∧ tI u 68 14 = tI u 68 10 ∧ NFp (tA t 75) (tI u 68 11) (tI u 68 10) (tI u 68 13) ∧ (((tI u 68 11 = tI t 68 14 ∨ 4 < tI u 68 10 - tI u 68 11) ∧ tI u 68 12 = 4) ∨ (¬ tI u 68 11 = tI t 68 14 ∧ tI u 68 10 - tI u 68 11 ≤ 4 ∧ tI u 68 12 = 2))) ∨ (soF (tA t 75) (tI t 68 9) (tI u 68 11) = 3 ∧ tI u 68 10 = tI u 68 11 + 1 ∧ tI u 68 12 = 3 ∧ tI u 68 13 = tA t 75 (tI u 68 11).toNat ∧ tI u 68 14 = tI t 68 14)) : CRx u (stC (tA t 75) (tI t 68 9) c) := by
  obtain ⟨g1, g2, g3, g4, g5⟩ := g
  have hl : (tI u 68 11 = tI t 68 14) ↔ ((c.2.1 = 1 ∨ c.2.1 = 2) ∧ tI u 68 11 = c.2.2.1) := by
    by_cases q : c.2.1 = 1 ∨ c.2.1 = 2
    · have := g2 q
      constructor
      · intro k; exact ⟨q, by omega⟩
      · intro k; omega
    · have := g3 (by omega)
      constructor
      · intro k; omega
      · intro k; exact absurd k.1 q
  have ec : stC (tA t 75) (tI t 68 9) c = (tI u 68 11, soF (tA t 75) (tI t 68 9) (tI u 68 11), spF (tA t 75) (tI t 68 9) (tI u 68 11), if tI u 68 11 = tI t 68 14 then 1 else 0) := by
    unfold stC
    rw [← g1, ← e11]
    congr 3
    by_cases q : tI u 68 11 = tI t 68 14
    · rw [if_pos q, if_pos]
      have := hl.mp q
      exact ⟨this.1, by omega⟩
    · rw [if_neg q, if_neg]
      intro k
      exact q (hl.mpr ⟨k.1, by omega⟩)
  rw [ec]
  unfold CRx tkF
  simp only []
  rw [h75]
  rcases h with h | h | h | h
  · obtain ⟨h1, h2, h3⟩ := h
    have e0 := sp_o (g := tA t 75) (n := tI t 68 9) (a := tI u 68 11) (b := tI u 68 10) (Or.inl ⟨h1, h2⟩)
    rw [h1, if_neg (by decide), if_neg (by decide), ← e0]
    exact ⟨⟨trivial, rfl, h3⟩, fun k => by omega, fun k => by omega, fun k => by omega, fun k => by omega⟩
  · obtain ⟨h1, h2, h3, h4, h5⟩ := h
    rw [h1, if_pos rfl, ← h2]
    rcases h5 with h5 | h5
    · rw [if_pos h5.1, if_pos rfl]
      exact ⟨⟨trivial, rfl, h5.2⟩, fun k => by omega, fun k => by omega, fun _ => h3, fun k => by omega⟩
    · rw [if_neg h5.1, if_neg (by decide)]
      exact ⟨⟨trivial, rfl, h5.2⟩, fun k => h4, fun k => by omega, fun _ => h3, fun k => by omega⟩
  · obtain ⟨h1, h2, h3, h4, h5⟩ := h
    rw [h1, if_neg (by decide), if_pos rfl, ← h2]
    rcases h5 with h5 | h5
    · rw [if_pos]
      · exact ⟨⟨trivial, rfl, h5.2⟩, fun k => by omega, fun k => by omega, fun _ => h3, fun k => by omega⟩
      · by_cases q : tI u 68 11 = tI t 68 14
        · rw [if_pos q]; exact Or.inl rfl
        · exact Or.inr (h5.1.resolve_left q)
    · rw [if_neg]
      · exact ⟨⟨trivial, rfl, h5.2.2⟩, fun k => by omega, fun k => h4 h5.2.1, fun _ => h3, fun k => by omega⟩
      · rw [if_neg h5.1]
        omega
  · obtain ⟨h1, h2, h3, h4, h5⟩ := h
    have e0 := sp_o (g := tA t 75) (n := tI t 68 9) (a := tI u 68 11) (b := tI u 68 10) (Or.inr ⟨h1, h2⟩)
    rw [h1, if_neg (by decide), if_neg (by decide), ← e0]
    refine ⟨⟨trivial, rfl, h3⟩, fun k => h4, fun k => by omega, fun k => by omega, fun k => ?_⟩
    by_cases q : c.2.1 = 1 ∨ c.2.1 = 2
    · have := g2 q
      omega
    · have := g3 (by omega)
      omega
def KC (t : TS) : Prop := (∀ i : Nat, i < 4 → tA t 76 i = wdF 3 i) ∧ (∀ i : Nat, i < 3 → tA t 76 (4 + i) = wdF 4 i) ∧ (∀ i : Nat, i < 4 → tA t 76 (7 + i) = wdF 5 i)
theorem CRx.sg {t : TS} {c : PCu} (h : CRx t c) (w : WC (tI t 68 9) c) : (tI t 68 12 = 3 → siF (tA t 75) (tI t 68 9) c = tI t 68 13) ∧ (¬ tI t 68 12 = 3 → siF (tA t 75) (tI t 68 9) c = 0) := by
  have e := h.1.2.2
  have w1 := w.2.1
  have w2 := w.2.2.1
  have w7 := w.2.2.2.2.2.2
  have e3 : tkF c = 3 ↔ c.2.1 = 3 := by
    unfold tkF
    (repeat' split) <;> omega
  constructor
  · intro k
    have q := e3.mp (by omega)
    have q2 := w7 (by omega)
    unfold siF
    rw [if_pos ⟨q, by omega⟩, h.2.1 (Or.inr (by omega))]
  · intro k
    unfold siF
    rw [if_neg (fun q => k (by have := e3.mpr q.1; omega))]
theorem st_push {u v : TS} {a : Int} (h0 : 0 ≤ tI u 68 22) (h : tI v 68 22 = tI u 68 22 + 1) (e : ∀ i, tA v 79 i = if i = (tI u 68 22).toNat then a else tA u 79 i) : stR v = a :: stR u := by
  unfold stR
  rw [show (tI v 68 22).toNat = (tI u 68 22).toNat + 1 by omega]
  show tA v 79 (tI u 68 22).toNat :: ls1 (tA v 79) (tI u 68 22).toNat = _
  rw [e, if_pos rfl]
  congr 1
  exact ls1_congr (fun j hj => by rw [e, if_neg (by omega)])
theorem st_drop {u v : TS} (h0 : 0 < tI u 68 22) (h : tI v 68 22 = tI u 68 22 - 1) (e : ∀ i, tA v 79 i = tA u 79 i) : stR v = (stR u).tail := by
  unfold stR
  rw [show (tI u 68 22).toNat = (tI v 68 22).toNat + 1 by omega]
  show _ = ls1 (tA u 79) (tI v 68 22).toNat
  exact ls1_congr (fun j hj => e j)
theorem st_same {u v : TS} (h : tI v 68 22 = tI u 68 22) (e : ∀ i, tA v 79 i = tA u 79 i) : stR v = stR u := by
  unfold stR
  rw [h]
  exact ls1_congr (fun j _ => e j)
theorem co_push {u v : TS} {a : Int} (h0 : 0 ≤ tI u 68 19) (h : tI v 68 19 = tI u 68 19 + 1) (e : ∀ i, tA v 78 i = if i = (tI u 68 19).toNat then a else tA u 78 i) : coR v = a :: coR u := by
  unfold coR
  rw [show (tI v 68 19).toNat = (tI u 68 19).toNat + 1 by omega]
  show tA v 78 (tI u 68 19).toNat :: ls1 (tA v 78) (tI u 68 19).toNat = _
  rw [e, if_pos rfl]
  congr 1
  exact ls1_congr (fun j hj => by rw [e, if_neg (by omega)])
theorem co_same {u v : TS} (h : tI v 68 19 = tI u 68 19) (e : ∀ i, tA v 78 i = tA u 78 i) : coR v = coR u := by
  unfold coR
  rw [h]
  exact ls1_congr (fun j _ => e j)
def SEp (x : Int) (t u : TS) : Prop := stF x (stR u) (coR u) = stF x (stR t) (coR t)
def SEq (x : Int) (t u : TS) : Prop := (stR u, coR u) = stF x (stR t) (coR t)
theorem stR_top {u : TS} (h0 : 0 < tI u 68 22) : stR u = tA u 79 (tI u 68 22 - 1).toNat :: ls1 (tA u 79) (tI u 68 22 - 1).toNat := by
  unfold stR
  rw [show (tI u 68 22).toNat = (tI u 68 22 - 1).toNat + 1 by omega]
  rfl
theorem se_0 {t u : TS} {x : Int} (h : SEp x t u) (h0 : tI u 68 22 ≤ 0) : SEq x t u := by
  unfold SEq
  have e : stR u = [] := by
    unfold stR
    rw [show (tI u 68 22).toNat = 0 by omega]
    rfl
  rw [← show stF x (stR u) (coR u) = _ from h, e]
  rfl
theorem se_1 {t u : TS} {x : Int} (h : SEp x t u) (h0 : 0 < tI u 68 22) (h1 : tA u 79 (tI u 68 22 - 1).toNat = -11 ∨ rkF (tA u 79 (tI u 68 22 - 1).toNat) < x) : SEq x t u := by
  unfold SEq
  rw [← show stF x (stR u) (coR u) = _ from h, stR_top h0]
  show _ = (if _ then _ else _)
  rw [if_neg (by omega)]
theorem se_n {t u v : TS} {x a : Int} (h : SEp x t u) (h0 : 0 < tI u 68 22) (ha : tA u 79 (tI u 68 22 - 1).toNat = a) (h1 : ¬ a = -11) (h2 : x ≤ rkF a) (e22 : tI v 68 22 = tI u 68 22 - 1) (h19 : 0 ≤ tI u 68 19) (e19 : tI v 68 19 = tI u 68 19 + 1) (e79 : ∀ i, tA v 79 i = tA u 79 i) (e78 : ∀ i, tA v 78 i = if i = (tI u 68 19).toNat then a else tA u 78 i) : SEp x t v := by
  unfold SEp
  rw [← show stF x (stR u) (coR u) = _ from h, st_drop h0 e22 e79, co_push h19 e19 e78, stR_top h0, ha]
  show _ = (if ¬ a = -11 ∧ x ≤ rkF a then stF x (ls1 (tA u 79) (tI u 68 22 - 1).toNat) (a :: coR u) else _)
  rw [if_pos ⟨h1, h2⟩]
  rfl
theorem no_s {f : Nat → Int} {n n' k : Int} (h : n = noS (ls1 f k.toNat)) (h0 : 0 ≤ k) (e : n' = n + (if f k.toNat = -10 then 1 else 0)) : n' = noS (ls1 f (k + 1).toNat) := by
  rw [show (k + 1).toNat = k.toNat + 1 by omega]
  show n' = noS (ls1 f k.toNat) + (if f k.toNat = -10 then 1 else 0)
  rw [← h]
  exact e
def lnW (w : Int) : Int := if w = 1 then 3 else 4
theorem ln_s (w : Int) : (w = 1 ∧ lnW w = 3) ∨ (¬ w = 1 ∧ lnW w = 4) := by
  unfold lnW
  split <;> omega
def NKp (g : Nat → Int) (c : PCu) (w : Int) : Prop := ∀ v : Int, 0 ≤ v → v < w → ¬ kyW g c (3 + v.toNat) (lnW v)
theorem nk_0 {g : Nat → Int} {c : PCu} {w : Int} (h : w = 0) : NKp g c w := fun v h1 h2 => by omega
theorem nk_s {g : Nat → Int} {c : PCu} {w : Int} (h : NKp g c w) (k : ¬ kyW g c (3 + w.toNat) (lnW w)) : NKp g c (w + 1) := by
  intro v h1 h2
  by_cases e : v = w
  · subst e; exact k
  · exact h v h1 (by omega)
def SMp (g : Nat → Int) (s len w same k : Int) : Prop := (same = 1 ∧ len = lnW w ∧ WDp g (3 + w.toNat) s k) ∨ (same = 0 ∧ ¬ (len = lnW w ∧ WDp g (3 + w.toNat) s (lnW w)))
theorem sm_0 {g : Nat → Int} {s len w same k : Int} (h : (same = 1 ∧ len = lnW w) ∨ (same = 0 ∧ ¬ len = lnW w)) (hk : k = 0) : SMp g s len w same k := by
  rcases h with h | h
  · exact Or.inl ⟨h.1, h.2, fun i h1 h2 => by omega⟩
  · exact Or.inr ⟨h.1, fun e => h.2 e.1⟩
theorem sm_s {g : Nat → Int} {s len w same same' k b x : Int} (h : SMp g s len w same k) (hs : same = 1) (hk : 0 ≤ k ∧ k < lnW w) (eb : b = g (s + k).toNat) (ec : x = wdF (3 + w.toNat) k) (hv : (same' = 1 ∧ b = x) ∨ (same' = 0 ∧ ¬ b = x)) : SMp g s len w same' (k + 1) := by
  rcases h with h | h
  · rcases hv with v | v
    · exact Or.inl ⟨v.1, h.2.1, h.2.2.sn (by omega)⟩
    · exact Or.inr ⟨v.1, fun e => v.2 (by rw [eb, ec]; exact e.2 k hk.1 hk.2)⟩
  · exact absurd h.1 (by omega)
theorem kc_w {t : TS} {z w k x : Int} (h : KC t) (hk : 0 ≤ k ∧ k < lnW w) (hx : (w = 0 ∧ x = k) ∨ (w = 1 ∧ x = 4 + k) ∨ (w = 2 ∧ x = 7 + k)) (e : z = tA t 76 x.toNat) : z = wdF (3 + w.toNat) k := by
  have l := ln_s w
  obtain ⟨h1, h2, h3⟩ := h
  rcases hx with q | q | q
  · obtain ⟨rfl, rfl⟩ := q
    rw [e, h1 x.toNat (by omega), show ((x.toNat : Nat) : Int) = x by omega]
    rfl
  · obtain ⟨rfl, rfl⟩ := q
    rw [e, show (4 + k).toNat = 4 + k.toNat by omega, h2 k.toNat (by omega), show ((k.toNat : Nat) : Int) = k by omega]
    rfl
  · obtain ⟨rfl, rfl⟩ := q
    rw [e, show (7 + k).toNat = 7 + k.toNat by omega, h3 k.toNat (by omega), show ((k.toNat : Nat) : Int) = k by omega]
    rfl
theorem ky_t {g : Nat → Int} {c : PCu} (h : ¬ c.2.1 = 1) : KYp g c (-1) := Or.inr (Or.inr (Or.inr ⟨rfl, fun k => h k.1, fun k => h k.1, fun k => h k.1⟩))
theorem ky_n {g : Nat → Int} {c : PCu} {w : Int} (h : NKp g c w) (hw : 3 ≤ w) : KYp g c (-1) := Or.inr (Or.inr (Or.inr ⟨rfl, h 0 (by omega) (by omega), h 1 (by omega) (by omega), h 2 (by omega) (by omega)⟩))
theorem ky_y {g : Nat → Int} {c : PCu} {w : Int} (h : NKp g c w) (hw : 0 ≤ w ∧ w ≤ 2) (k : kyW g c (3 + w.toNat) (lnW w)) : KYp g c w := by
  have q : w = 0 ∨ w = 1 ∨ w = 2 := by omega
  rcases q with rfl | rfl | rfl
  · exact Or.inl ⟨rfl, k⟩
  · exact Or.inr (Or.inl ⟨rfl, h 0 (by omega) (by omega), k⟩)
  · exact Or.inr (Or.inr (Or.inl ⟨rfl, h 0 (by omega) (by omega), h 1 (by omega) (by omega), k⟩))
theorem sm_y {t : TS} {c : PCu} {w same k : Int} (h : SMp (tA t 75) (tI t 68 11) (tI t 68 10 - tI t 68 11) w same k) (cr : CRx t c) (h1 : tI t 68 12 = 1) (hl : c.2.2.2 = 0) (hs : ¬ same = 0) (hk : k = lnW w) : kyW (tA t 75) c (3 + w.toNat) (lnW w) := by
  rcases h with h | h
  · have e := cr.1.2.2
    have e1 := cr.1.1
    have e2 := cr.1.2.1
    refine ⟨?_, by omega, by rw [← e1, ← hk]; exact h.2.2⟩
    rw [h1] at e
    unfold tkF at e
    (repeat' split at e) <;> omega
  · exact absurd h.1 hs
theorem sm_n {t : TS} {c : PCu} {w same k : Int} (h : SMp (tA t 75) (tI t 68 11) (tI t 68 10 - tI t 68 11) w same k) (cr : CRx t c) (hs : same = 0) : ¬ kyW (tA t 75) c (3 + w.toNat) (lnW w) := by
  have e1 := cr.1.1
  have e2 := cr.1.2.1
  rcases h with h | h
  · exact absurd h.1 (by omega)
  · intro k
    refine h.2 ⟨?_, ?_⟩
    · rw [e1, e2]; exact k.2.1
    · rw [e1]; exact k.2.2
theorem tk_ne {n : Int} {c : PCu} (w : WC n c) (h : ¬ tkF c = 0) : ¬ c.2.1 = 0 := fun e => h ((tk_0 w).mpr e)
theorem tk_n1 {t : TS} {c : PCu} (cr : CRx t c) (hl : c.2.2.2 = 0) (h : ¬ tI t 68 12 = 1) : ¬ c.2.1 = 1 := by
  intro e
  apply h
  rw [cr.1.2.2]
  unfold tkF
  rw [if_pos e, if_neg (by omega)]
def TKp (t : TS) (c : PCu) (z : Int) (u : TS) : Prop := (z = 1 ∧ KYp (tA t 75) c (tI u 68 15) ∧ 0 ≤ tI u 68 15 ∧ CRx u (stC (tA t 75) (tI t 68 9) c)) ∨ (z = 0 ∧ KYp (tA t 75) c (-1) ∧ u = t)
def PTc (t : TS) (c : PCu) : Prop := tkF c = 2 ∨ (tkF c = 1 ∧ c.2.2.1 - c.1 = 1 ∧ 0 ≤ nmF (tI t 68 15) (tA t 75 c.1.toNat))
theorem pt_y {t : TS} {c : PCu} (h : CRx t c) (hv : tI t 68 12 = 2 ∨ (tI t 68 12 = 1 ∧ tI t 68 10 - tI t 68 11 = 1 ∧ 0 ≤ nmF (tI t 68 15) (tI t 68 13))) : PTc t c := by
  obtain ⟨⟨e1, e2, e3⟩, e4, -⟩ := h
  rcases hv with v | v
  · exact Or.inl (by omega)
  · exact Or.inr ⟨by omega, by omega, by rw [← e4 (Or.inl (by omega))]; exact v.2.2⟩
theorem pt_n {t : TS} {c : PCu} (h : CRx t c) (hv : ¬ (tI t 68 12 = 2 ∨ (tI t 68 12 = 1 ∧ tI t 68 10 - tI t 68 11 = 1 ∧ 0 ≤ nmF (tI t 68 15) (tI t 68 13)))) : ¬ PTc t c := by
  obtain ⟨⟨e1, e2, e3⟩, e4, -⟩ := h
  intro k
  apply hv
  rcases k with v | v
  · exact Or.inl (by omega)
  · exact Or.inr ⟨by omega, by omega, by rw [e4 (Or.inl v.1)]; exact v.2.2⟩
theorem op_v {t : TS} {c : PCu} {v : Int} (h : CRx t c) (hv : (tI t 68 12 = 2 ∧ v = tI t 68 13) ∨ (tI t 68 12 = 1 ∧ v = 10000 + nmF (tI t 68 15) (tI t 68 13))) : v = opV (tA t 75) (tI t 68 15) c := by
  obtain ⟨⟨e1, e2, e3⟩, e4, e5, -⟩ := h
  unfold opV
  rcases hv with k | k
  · rw [if_pos (by omega), k.2]; exact e5 (by omega)
  · rw [if_neg (by omega), k.2, e4 (Or.inl (by omega))]
def TPp (t : TS) (c : PCu) (z : Int) (u : TS) : Prop := (z = 1 ∧ PTc t c ∧ CRx u (stC (tA t 75) (tI t 68 9) c) ∧ (stR u, coR u) = stF 6 (stR t) (opV (tA t 75) (tI t 68 15) c :: coR t) ∧ tI u 68 20 = tI t 68 20 + 1) ∨ (z = 0 ∧ ¬ PTc t c ∧ u = t)
def GR (t u : TS) : Prop := tA u 75 = tA t 75 ∧ tI u 68 9 = tI t 68 9 ∧ tI u 68 15 = tI t 68 15
theorem GR.fr {S : List (Nat × Nat)} {t u : TS} (f : Fr S t u) (h1 : (75, 100) ∉ S) (h2 : (68, 9) ∉ S) (h3 : (68, 15) ∉ S) : GR t u := ⟨funext (f.2.1 75 h1), f.1 _ _ h2, f.1 _ _ h3⟩
theorem si_u {t u : TS} {c : PCu} {x : Int} (gr : GR t u) (cr : CRx u c) (w : WC (tI t 68 9) c) (hx : ¬ x = 0) : siF (tA t 75) (tI t 68 9) c = x ↔ (tI u 68 12 = 3 ∧ tI u 68 13 = x) := by
  have h := cr.si (x := x) (by rw [gr.2.1]; exact w) hx
  rw [gr.1, gr.2.1] at h
  exact h
theorem pt_u {t u : TS} {c : PCu} (gr : GR t u) (h : PTc u c) : tkF c = 2 ∨ (tkF c = 1 ∧ c.2.2.1 - c.1 = 1 ∧ 0 ≤ nmF (tI t 68 15) (tA t 75 c.1.toNat)) := by
  unfold PTc at h
  rw [gr.1, gr.2.2] at h
  exact h
theorem pt_v {t u : TS} {c : PCu} (gr : GR t u) (h : ¬ PTc u c) : ¬ (tkF c = 2 ∨ (tkF c = 1 ∧ c.2.2.1 - c.1 = 1 ∧ 0 ≤ nmF (tI t 68 15) (tA t 75 c.1.toNat))) := by
  unfold PTc at h
  rw [gr.1, gr.2.2] at h
  exact h
theorem sy_not {g : Nat → Int} {n q : Int} {c : PCu} {S O : List Int} {a w p k : Int} {T : Nat → Int} (hw : ¬ w = 0) (h : siF g n c = 33 ∧ k < 8) : sy1 g n q c S O a w p k T = .inl (stC g n c, -10 :: S, O, a, 1, p, noS (-10 :: S), T) := by
  unfold sy1
  rw [if_neg (fun e => hw e.1), if_pos hw, if_pos h]
theorem sy_par {g : Nat → Int} {n q : Int} {c : PCu} {S O : List Int} {a w p k : Int} {T : Nat → Int} (hw : ¬ w = 0) (h1 : ¬ (siF g n c = 33 ∧ k < 8)) (h : siF g n c = 40 ∧ p < 8) : sy1 g n q c S O a w p k T = .inl (stC g n c, -11 :: S, O, a, 1, p + 1, noS (-11 :: S), upF T (p + 1).toNat 0) := by
  unfold sy1
  rw [if_neg (fun e => hw e.1), if_pos hw, if_neg h1, if_pos h]
theorem sy_opd {g : Nat → Int} {n q : Int} {c : PCu} {S O : List Int} {a w p k : Int} {T : Nat → Int} (hw : ¬ w = 0) (h1 : ¬ (siF g n c = 33 ∧ k < 8)) (h2 : ¬ (siF g n c = 40 ∧ p < 8)) (h : tkF c = 2 ∨ (tkF c = 1 ∧ c.2.2.1 - c.1 = 1 ∧ 0 ≤ nmF q (g c.1.toNat))) : sy1 g n q c S O a w p k T = .inl (stC g n c, (stF 6 S (opV g q c :: O)).1, (stF 6 S (opV g q c :: O)).2, a + 1, 0, p, noS (stF 6 S (opV g q c :: O)).1, T) := by
  unfold sy1
  rw [if_neg (fun e => hw e.1), if_pos hw, if_neg h1, if_neg h2, if_pos h]
theorem sy_bad {g : Nat → Int} {n q : Int} {c : PCu} {S O : List Int} {a w p k : Int} {T : Nat → Int} (hw : ¬ w = 0) (h1 : ¬ (siF g n c = 33 ∧ k < 8)) (h2 : ¬ (siF g n c = 40 ∧ p < 8)) (h : ¬ (tkF c = 2 ∨ (tkF c = 1 ∧ c.2.2.1 - c.1 = 1 ∧ 0 ≤ nmF q (g c.1.toNat)))) : sy1 g n q c S O a w p k T = .inr (c.1, [], 0) := by
  unfold sy1
  rw [if_neg (fun e => hw e.1), if_pos hw, if_neg h1, if_neg h2, if_neg h]
theorem sy_cl {g : Nat → Int} {n q : Int} {c : PCu} {S O : List Int} {a w p k : Int} {T : Nat → Int} (hw : w = 0) (ht : ¬ tkF c = 0) (h : siF g n c = 41 ∧ 0 < p) : sy1 g n q c S O a w p k T = .inl (stC g n c, (stF 6 (stF 0 S O).1.tail (stF 0 S O).2).1, (stF 6 (stF 0 S O).1.tail (stF 0 S O).2).2, a, 0, p - 1, noS (stF 6 (stF 0 S O).1.tail (stF 0 S O).2).1, T) := by
  unfold sy1
  rw [if_neg (fun e => ht e.2), if_neg (fun e => e hw), if_pos h]
theorem sy_sb {g : Nat → Int} {n q : Int} {c : PCu} {S O : List Int} {a w p k : Int} {T : Nat → Int} (hw : w = 0) (ht : ¬ tkF c = 0) (h1 : ¬ (siF g n c = 41 ∧ 0 < p)) (h : sgF (siF g n c) = 0 ∨ (rkF (sgF (siF g n c)) = 3 ∧ ¬ T p.toNat = 0)) : sy1 g n q c S O a w p k T = .inr (c.1, [], 0) := by
  unfold sy1
  rw [if_neg (fun e => ht e.2), if_neg (fun e => e hw), if_neg h1, if_pos h]
theorem sy_sg {g : Nat → Int} {n q : Int} {c : PCu} {S O : List Int} {a w p k sg : Int} {T : Nat → Int} (hw : w = 0) (ht : ¬ tkF c = 0) (h1 : ¬ (siF g n c = 41 ∧ 0 < p)) (hs : sg = sgF (siF g n c)) (h : ¬ (sg = 0 ∨ (rkF sg = 3 ∧ ¬ T p.toNat = 0))) : sy1 g n q c S O a w p k T = .inl (stC g n c, sg :: (stF (rkF sg) S O).1, (stF (rkF sg) S O).2, a, 1, p, k, upF T p.toNat (if rkF sg = 3 ∨ (3 < rkF sg ∧ ¬ T p.toNat = 0) then 1 else 0)) := by
  unfold sy1
  rw [if_neg (fun e => ht e.2), if_neg (fun e => e hw), if_neg h1, ← hs, if_neg h]
theorem sy_e1 {g : Nat → Int} {n q : Int} {c : PCu} {S O : List Int} {a w p k : Int} {T : Nat → Int} (hw : w = 0) (ht : tkF c = 0) (hp : p = 0) : sy1 g n q c S O a w p k T = .inr (-1, (stF 0 S O).2, a) := by
  unfold sy1
  rw [if_pos ⟨hw, ht⟩, if_pos hp]
theorem sy_e0 {g : Nat → Int} {n q : Int} {c : PCu} {S O : List Int} {a w p k : Int} {T : Nat → Int} (hw : w = 0) (ht : tkF c = 0) (hp : ¬ p = 0) : sy1 g n q c S O a w p k T = .inr (c.1, [], 0) := by
  unfold sy1
  rw [if_pos ⟨hw, ht⟩, if_neg hp]
def RcT (t : TS) (c0 : PCu) (T0 : Nat → Int) (u : TS) (c : PCu) (p k w : Int) : Prop := Rch (tA t 75) (tI t 68 9) (tI t 68 15) (c0, [], [], 0, 1, 0, 0, T0) (c, stR u, coR u, tI u 68 20, w, p, k, tA u 80)
def TEp (t : TS) (c0 : PCu) (u : TS) (p k w : Int) : Prop := ∃ T0 c, T0 0 = 0 ∧ CRx u c ∧ WC (tI t 68 9) c ∧ RcT t c0 T0 u c p k w
def TFp (t : TS) (c0 : PCu) (z : Int) (u : TS) : Prop := ∃ T0 : Nat → Int, T0 0 = 0 ∧ ((z = 1 ∧ ∃ k, syr (tA t 75) (tI t 68 9) (tI t 68 15) k (c0, [], [], 0, 1, 0, 0, T0) = some (-1, coR u, tI u 68 20)) ∨ (z = 0 ∧ Rft (tA t 75) (tI t 68 9) (tI t 68 15) (c0, [], [], 0, 1, 0, 0, T0) (tI u 68 11)))
theorem te_0 {t u : TS} {c0 : PCu} {p k w : Int} (cr : CRx u c0) (wc : WC (tI t 68 9) c0) (h0 : tA u 80 0 = 0) (hs : stR u = []) (ho : coR u = []) (ha : tI u 68 20 = 0) (hp : p = 0) (hk : k = 0) (hw : w = 1) : TEp t c0 u p k w := ⟨tA u 80, c0, h0, cr, wc, by unfold RcT; rw [hs, ho, ha, hp, hk, hw]; exact Rch.rf _⟩
theorem te_st {t u v : TS} {c0 c : PCu} {T0 T' : Nat → Int} {p k w p' k' w' pp kk a' : Int} {S' O' : List Int} (hT0 : T0 0 = 0) (wc : WC (tI t 68 9) c) (rc : RcT t c0 T0 u c p k w) (e : sy1 (tA t 75) (tI t 68 9) (tI t 68 15) c (stR u) (coR u) (tI u 68 20) w p k (tA u 80) = .inl (stC (tA t 75) (tI t 68 9) c, S', O', a', w', pp, kk, T')) (hp : p' = pp) (hk : k' = kk) (cv : CRx v (stC (tA t 75) (tI t 68 9) c)) (hs : stR v = S') (ho : coR v = O') (ha : tI v 68 20 = a') (hT : tA v 80 = T') : TEp t c0 v p' k' w' := by
  refine ⟨T0, stC (tA t 75) (tI t 68 9) c, hT0, cv, (WC.nx wc).1, ?_⟩
  unfold RcT
  rw [hs, ho, ha, hT, hk, hp]
  exact Rch.tr rc (Rch.st e)
theorem tf_0 {t u v : TS} {c0 c : PCu} {T0 : Nat → Int} {p k w z : Int} {r : PRs} (hT0 : T0 0 = 0) (rc : RcT t c0 T0 u c p k w) (e : sy1 (tA t 75) (tI t 68 9) (tI t 68 15) c (stR u) (coR u) (tI u 68 20) w p k (tA u 80) = .inr r) (hr : r.1 = tI v 68 11) (hz : z = 0) : TFp t c0 z v := by
  refine ⟨T0, hT0, Or.inr ⟨hz, ?_⟩⟩
  rw [← hr]
  exact Rft.of rc (Rft.dn e)
theorem tf_1 {t u v : TS} {c0 c : PCu} {T0 : Nat → Int} {p k w z : Int} (hT0 : T0 0 = 0) (rc : RcT t c0 T0 u c p k w) (e : sy1 (tA t 75) (tI t 68 9) (tI t 68 15) c (stR u) (coR u) (tI u 68 20) w p k (tA u 80) = .inr (-1, (stF 0 (stR u) (coR u)).2, tI u 68 20)) (ho : coR v = (stF 0 (stR u) (coR u)).2) (ha : tI v 68 20 = tI u 68 20) (hz : z = 1) : TFp t c0 z v := by
  refine ⟨T0, hT0, Or.inl ⟨hz, ?_⟩⟩
  rw [ho, ha]
  exact rc 1 _ (syr_dn e)
theorem se_t {t a b : TS} {x : Int} (h : SEq x a b) (hs : stR a = stR t) (ho : coR a = coR t) : stR b = (stF x (stR t) (coR t)).1 ∧ coR b = (stF x (stR t) (coR t)).2 := by
  have e : (stR b, coR b) = stF x (stR a) (coR a) := h
  rw [hs, ho] at e
  rw [← e]
  exact ⟨rfl, rfl⟩
theorem se_c {t a b d : TS} (h1 : stR a = (stF 0 (stR t) (coR t)).1 ∧ coR a = (stF 0 (stR t) (coR t)).2) (hb : stR b = (stR a).tail) (hc : coR b = coR a) (h : SEq 6 b d) : stR d = (stF 6 (stF 0 (stR t) (coR t)).1.tail (stF 0 (stR t) (coR t)).2).1 ∧ coR d = (stF 6 (stF 0 (stR t) (coR t)).1.tail (stF 0 (stR t) (coR t)).2).2 := by
  have e : (stR d, coR d) = stF 6 (stR b) (coR b) := h
  rw [hb, hc, h1.1, h1.2] at e
  rw [← e]
  exact ⟨rfl, rfl⟩
end
section
/-! ===== the class's reader as a function ===== -/
def lsP (f g : Nat → Int) : Nat → List (Int × Int)
  | 0 => []
  | h + 1 => (f h, g h) :: lsP f g h
theorem lsP_congr {f g f' g' : Nat → Int} : ∀ {n : Nat}, (∀ j, j < n → f j = f' j) → (∀ j, j < n → g j = g' j) → lsP f g n = lsP f' g' n
  | 0, _, _ => rfl
  | n + 1, h, h' => by
    unfold lsP
    rw [lsP_congr (fun j hj => h j (by omega)) (fun j hj => h' j (by omega)), h n (by omega), h' n (by omega)]
def cuR (t : TS) : PCu := (tI t 39 8, tI t 39 7, tI t 39 9, tI t 39 10)
def ouR (t : TS) : List (Int × Int) := lsP (tA t 40) (tA t 41) (tI t 39 4).toNat
def Rd (t : TS) : PPs := (cuR t, ouR t, tI t 39 5, tI t 39 0)
def kyN (t : TS) : Int := (tN t : Int) - 1000006
def RDt (t : TS) (M : Nat) (l o k : Int) (x : PPs) : PPs := RD (tA t 38) (tI t 37 1) (kyN t) M l o k x
def GE (t u : TS) : Prop := tA u 38 = tA t 38 ∧ tI u 37 1 = tI t 37 1 ∧ tN u = tN t
theorem GE.fr {S : List (Nat × Nat)} {t u : TS} (f : Fr S t u) (h1 : (38, 100) ∉ S) (h2 : (37, 1) ∉ S) (h3 : (39, 6) ∉ S) : GE t u := ⟨funext (f.2.1 38 h1), f.1 _ _ h2, f.2.2.2.1 h3⟩
theorem GE.rd {t u : TS} (h : GE t u) (M : Nat) (l o k : Int) (x : PPs) : RDt u M l o k x = RDt t M l o k x := by
  unfold RDt kyN
  rw [h.1, h.2.1, h.2.2]
def STp (t u : TS) : Prop := cuR u = stC (tA t 38) (tI t 37 1) (cuR t)
theorem st_mk {t u : TS} (h8 : tI u 39 8 = skF (tA t 38) (tI t 37 1) 97 (tI t 39 9)) (h7 : tI u 39 7 = soF (tA t 38) (tI t 37 1) (skF (tA t 38) (tI t 37 1) 97 (tI t 39 9))) (h9 : tI u 39 9 = spF (tA t 38) (tI t 37 1) (skF (tA t 38) (tI t 37 1) 97 (tI t 39 9))) (h10 : (tI u 39 10 = 1 ∧ (tI t 39 7 = 1 ∨ tI t 39 7 = 2) ∧ skF (tA t 38) (tI t 37 1) 97 (tI t 39 9) = tI t 39 9) ∨ (tI u 39 10 = 0 ∧ ¬ ((tI t 39 7 = 1 ∨ tI t 39 7 = 2) ∧ skF (tA t 38) (tI t 37 1) 97 (tI t 39 9) = tI t 39 9))) : STp t u := by
  have e : tI u 39 10 = if (tI t 39 7 = 1 ∨ tI t 39 7 = 2) ∧ skF (tA t 38) (tI t 37 1) 97 (tI t 39 9) = tI t 39 9 then 1 else 0 := by
    rcases h10 with h | h
    · rw [if_pos h.2, h.1]
    · rw [if_neg h.2, h.1]
  show (tI u 39 8, tI u 39 7, tI u 39 9, tI u 39 10) = _
  rw [h8, h7, h9, e]
  rfl
theorem rd_st {t u : TS} (f : Fr [(39, 7), (39, 8), (39, 9), (39, 10)] t u) (h : STp t u) : Rd u = stP (tA t 38) (tI t 37 1) (Rd t) := by
  unfold Rd stP
  have e : ouR u = ouR t := by
    unfold ouR
    rw [f.1 39 4 (by simp), funext (f.2.1 40 (by simp)), funext (f.2.1 41 (by simp))]
  rw [e, f.1 39 5 (by simp), f.1 39 0 (by simp), show cuR u = _ from h]
theorem em_mk {t t1 t2 u : TS} {x y s v : Int} (p1 : t1 = uA t 40 x.toNat s) (hx : x = tI t 39 4) (p2 : t2 = uA t1 41 y.toNat v) (hy : y = tI t1 39 4) (h3 : tA u = tA t2) (h4 : tI u 39 4 = tI t 39 4 + 1) (h0 : 0 ≤ tI t 39 4) : ouR u = (s, v) :: ouR t := by
  have hy2 : y = tI t 39 4 := by rw [hy, p1]; rfl
  unfold ouR
  rw [show (tI u 39 4).toNat = (tI t 39 4).toNat + 1 by omega]
  show (tA u 40 (tI t 39 4).toNat, tA u 41 (tI t 39 4).toNat) :: lsP (tA u 40) (tA u 41) (tI t 39 4).toNat = _
  have e40 : ∀ j, tA u 40 j = if j = (tI t 39 4).toNat then s else tA t 40 j := by
    intro j
    rw [h3, p2, tA_uA, if_neg (by omega), p1, tA_uA, hx]
    by_cases e : j = (tI t 39 4).toNat
    · rw [if_pos ⟨rfl, e⟩, if_pos e]
    · rw [if_neg (fun q => e q.2), if_neg e]
  have e41 : ∀ j, tA u 41 j = if j = (tI t 39 4).toNat then v else tA t 41 j := by
    intro j
    rw [h3, p2, tA_uA, hy2]
    by_cases e : j = (tI t 39 4).toNat
    · rw [if_pos ⟨rfl, e⟩, if_pos e]
    · rw [if_neg (fun q => e q.2), if_neg e, p1, tA_uA, if_neg (by omega)]
  rw [e40, e41, if_pos rfl, if_pos rfl]
  congr 1
  exact lsP_congr (fun j hj => by rw [e40, if_neg (by omega)]) (fun j hj => by rw [e41, if_neg (by omega)])
theorem rd_em {t u : TS} {s v : Int} (f : Fr [(39, 4), (40, 100), (41, 100)] t u) (h : ouR u = (s, v) :: ouR t) : Rd u = emP s v (Rd t) := by
  unfold Rd emP cuR
  rw [h, f.1 39 5 (by simp), f.1 39 0 (by simp), f.1 39 7 (by simp), f.1 39 8 (by simp), f.1 39 9 (by simp), f.1 39 10 (by simp)]
theorem rd_ft {t u : TS} {z : Int} (h : u = uI t 39 0 z) (hz : z = tI t 39 8) : Rd u = ftP (Rd t) := by
  subst h
  show (cuR (uI t 39 0 z), ouR (uI t 39 0 z), tI (uI t 39 0 z) 39 5, tI (uI t 39 0 z) 39 0) = _
  have e : tI (uI t 39 0 z) 39 0 = tI t 39 8 := by rw [tI_uI, if_pos ⟨rfl, rfl⟩, hz]
  rw [e]
  rfl
theorem rd_op {t u : TS} {z : Int} (h : u = uI t 39 5 z) (hz : z = tI t 39 5 + 1) : Rd u = ((Rd t).1, (Rd t).2.1, (Rd t).2.2.1 + 1, (Rd t).2.2.2) := by
  subst h
  show (cuR (uI t 39 5 z), ouR (uI t 39 5 z), tI (uI t 39 5 z) 39 5, tI (uI t 39 5 z) 39 0) = _
  have e : tI (uI t 39 5 z) 39 5 = tI t 39 5 + 1 := by rw [tI_uI, if_pos ⟨rfl, rfl⟩, hz]
  rw [e]
  rfl
theorem numF_sn {g : Nat → Int} {n i s : Int} (h : n = numF g s.toNat (i - s).toNat) (hs : 0 ≤ s) (hi : s ≤ i) : 10 * n + g i.toNat - 48 = numF g s.toNat (i + 1 - s).toNat := by
  rw [show (i + 1 - s).toNat = (i - s).toNat + 1 by omega]
  show _ = 10 * numF g s.toNat (i - s).toNat + g (s.toNat + (i - s).toNat) - 48
  rw [← h, show s.toNat + (i - s).toNat = i.toNat by omega]
def OPp (t u : TS) : Prop := Rd u = opP (tA t 38) (tI t 37 1) (kyN t) (Rd t)
def CLp (t u : TS) : Prop := Rd u = clP (tA t 38) (tI t 37 1) (Rd t)
def RPp (o k : Int) (t u : TS) : Prop := ∀ M : Nat, 7 * (8 - o) + (8 - k) < (M : Int) → Rd u = RDt t M 5 o k (Rd t)
def RLp (l o k : Int) (t u : TS) : Prop := ∀ M : Nat, 7 * (8 - o) + (8 - k) + (5 - l) < (M : Int) → Rd u = RDt t M l o k (Rd t)
theorem op_f {t u : TS} (h : tI t 39 10 = 1 ∨ (¬ (tI t 39 7 = 2 ∧ tI t 39 9 - tI t 39 8 ≤ 4) ∧ ¬ (tI t 39 7 = 1 ∧ tI t 39 9 - tI t 39 8 = 1 ∧ ¬ nmF (kyN t) (tA t 38 (tI t 39 8).toNat) = -1))) (r : Rd u = ftP (Rd t)) : OPp t u := by
  unfold OPp opP
  by_cases e : (Rd t).1.2.2.2 = 1
  · rw [if_pos e]; exact r
  · rw [if_neg e]
    rcases h with h | h
    · exact absurd h e
    · have a1 : ¬ ((Rd t).1.2.1 = 2 ∧ (Rd t).1.2.2.1 - (Rd t).1.1 ≤ 4) := h.1
      have a2 : ¬ ((Rd t).1.2.1 = 1 ∧ (Rd t).1.2.2.1 - (Rd t).1.1 = 1 ∧ ¬ nmF (kyN t) (tA t 38 (Rd t).1.1.toNat) = -1) := h.2
      rw [if_neg a1, if_neg a2]; exact r
theorem op_n {t a b u : TS} {s v : Int} (h : ¬ tI t 39 10 = 1) (k : ((tI t 39 7 = 2 ∧ tI t 39 9 - tI t 39 8 ≤ 4) ∧ s = 0 ∧ v = numF (tA t 38) (tI t 39 8).toNat (tI t 39 9 - tI t 39 8).toNat) ∨ (tI t 39 7 = 1 ∧ tI t 39 9 - tI t 39 8 = 1 ∧ ¬ v = -1 ∧ s = 1 ∧ v = nmF (kyN t) (tA t 38 (tI t 39 8).toNat))) (r1 : Rd a = emP s v (Rd t)) (r2 : Rd b = ((Rd a).1, (Rd a).2.1, (Rd a).2.2.1 + 1, (Rd a).2.2.2)) (ga : GE t b) (r3 : Rd u = stP (tA b 38) (tI b 37 1) (Rd b)) : OPp t u := by
  rw [ga.1, ga.2.1, r2, r1] at r3
  unfold OPp opP
  have a0 : ¬ (Rd t).1.2.2.2 = 1 := h
  rw [if_neg a0]
  rcases k with k | k
  · have a1 : (Rd t).1.2.1 = 2 ∧ (Rd t).1.2.2.1 - (Rd t).1.1 ≤ 4 := k.1
    rw [if_pos a1, r3, k.2.1, k.2.2]
    rfl
  · obtain ⟨k1, k2, k3, k4, k5⟩ := k
    have a1 : ¬ ((Rd t).1.2.1 = 2 ∧ (Rd t).1.2.2.1 - (Rd t).1.1 ≤ 4) := fun e => by have e1 : tI t 39 7 = 2 := e.1; omega
    have a2 : (Rd t).1.2.1 = 1 ∧ (Rd t).1.2.2.1 - (Rd t).1.1 = 1 ∧ ¬ nmF (kyN t) (tA t 38 (Rd t).1.1.toNat) = -1 := ⟨k1, k2, fun e => k3 (k5.trans e)⟩
    rw [if_neg a1, if_pos a2, r3, k4, k5]
    rfl
theorem cl_f {t : TS} (h : ¬ tI t 39 0 = -1) : CLp t t := by
  unfold CLp clP
  have a0 : ¬ (Rd t).2.2.2 = -1 := h
  rw [if_pos a0]
theorem cl_s {t u : TS} {s : Int} (h : tI t 39 0 = -1) (hs : s = siF (tA t 38) (tI t 37 1) (cuR t)) (h41 : s = 41) (r : Rd u = stP (tA t 38) (tI t 37 1) (Rd t)) : CLp t u := by
  unfold CLp clP
  have a0 : ¬ ¬ (Rd t).2.2.2 = -1 := fun e => e h
  have a1 : siF (tA t 38) (tI t 37 1) (Rd t).1 = 41 := hs.symm.trans h41
  rw [if_neg a0, if_pos a1]
  exact r
theorem cl_x {t u : TS} {s : Int} (h : tI t 39 0 = -1) (hs : s = siF (tA t 38) (tI t 37 1) (cuR t)) (h41 : ¬ s = 41) (r : Rd u = ftP (Rd t)) : CLp t u := by
  unfold CLp clP
  have a0 : ¬ ¬ (Rd t).2.2.2 = -1 := fun e => e h
  have a1 : ¬ siF (tA t 38) (tI t 37 1) (Rd t).1 = 41 := fun e => h41 (hs.trans e)
  rw [if_neg a0, if_neg a1]
  exact r
theorem RD_5 (g : Nat → Int) (n q : Int) (m : Nat) (o k : Int) (x : PPs) : RD g n q (m + 1) 5 o k x = (if siF g n x.1 = 33 ∧ k < 8 then emP 33 0 (RD g n q m 5 o (k + 1) (stP g n x)) else if siF g n x.1 = 40 ∧ o < 8 then clP g n (RD g n q m 0 (o + 1) k (stP g n x)) else opP g n q x) := by
  show (if (5 : Int) ≤ 5 then _ else LPx g n (RD g n q m (5 + 1) o k) 5 (if (5 : Int) = 2 then 1 else 96) (RD g n q m (5 + 1) o k x)) = _
  rw [if_pos (by decide)]
theorem pc_not {t a b c : TS} {o k s : Int} (hr : o ≤ 8 ∧ k ≤ 8) (es : s = siF (tA t 38) (tI t 37 1) (cuR t)) (h33 : s = 33) (hk : k < 8) (r1 : Rd a = stP (tA t 38) (tI t 37 1) (Rd t)) (g1 : GE t a) (r2 : RPp o (k + 1) a b) (r3 : Rd c = emP 33 0 (Rd b)) : RPp o k t c := by
  intro M hM
  obtain ⟨m, rfl⟩ : ∃ m, M = m + 1 := ⟨M - 1, by omega⟩
  rw [r3, r2 m (by omega), g1.rd, r1]
  have a0 : siF (tA t 38) (tI t 37 1) (Rd t).1 = 33 ∧ k < 8 := ⟨es.symm.trans h33, hk⟩
  unfold RDt
  rw [RD_5, if_pos a0]
theorem pc_par {t a b c : TS} {o k s : Int} (hr : o ≤ 8 ∧ k ≤ 8) (es : s = siF (tA t 38) (tI t 37 1) (cuR t)) (h40 : s = 40) (ho : o < 8) (r1 : Rd a = stP (tA t 38) (tI t 37 1) (Rd t)) (g1 : GE t a) (r2 : RLp 0 (o + 1) k a b) (g2 : GE t b) (r3 : CLp b c) : RPp o k t c := by
  intro M hM
  obtain ⟨m, rfl⟩ : ∃ m, M = m + 1 := ⟨M - 1, by omega⟩
  have r3' : Rd c = clP (tA b 38) (tI b 37 1) (Rd b) := r3
  rw [r3', g2.1, g2.2.1, r2 m (by omega), g1.rd, r1]
  have a1 : siF (tA t 38) (tI t 37 1) (Rd t).1 = 40 ∧ o < 8 := ⟨es.symm.trans h40, ho⟩
  have a0 : ¬ (siF (tA t 38) (tI t 37 1) (Rd t).1 = 33 ∧ k < 8) := fun e => by have e1 := e.1; have e2 := a1.1; omega
  unfold RDt
  rw [RD_5, if_neg a0, if_pos a1]
theorem pc_opd {t c : TS} {o k s : Int} (hr : o ≤ 8 ∧ k ≤ 8) (es : s = siF (tA t 38) (tI t 37 1) (cuR t)) (h33 : ¬ (s = 33 ∧ k < 8)) (h40 : ¬ (s = 40 ∧ o < 8)) (r : OPp t c) : RPp o k t c := by
  intro M hM
  obtain ⟨m, rfl⟩ : ∃ m, M = m + 1 := ⟨M - 1, by omega⟩
  rw [es] at h33 h40
  have r' : Rd c = opP (tA t 38) (tI t 37 1) (kyN t) (Rd t) := r
  rw [r']
  have a0 : ¬ (siF (tA t 38) (tI t 37 1) (Rd t).1 = 33 ∧ k < 8) := h33
  have a1 : ¬ (siF (tA t 38) (tI t 37 1) (Rd t).1 = 40 ∧ o < 8) := h40
  unfold RDt
  rw [RD_5, if_neg a0, if_neg a1]
theorem lv_pc {t c : TS} {l o k : Int} (hl : l = 5) (r : RPp o k t c) : RLp l o k t c := by
  subst hl
  exact fun M hM => r M (by omega)
def LVp (t c : TS) (l o k most i : Int) : Prop := ∀ M : Nat, 7 * (8 - o) + (8 - k) + (5 - l) < (M : Int) + 1 → LPx (tA t 38) (tI t 37 1) (RDt t M (l + 1) o k) l (most - i).toNat (Rd c) = LPx (tA t 38) (tI t 37 1) (RDt t M (l + 1) o k) l most.toNat (RDt t M (l + 1) o k (Rd t))
theorem lv_0 {t b : TS} {l o k most i : Int} (hi : i = 0) (r : RLp (l + 1) o k t b) : LVp t b l o k most i := by
  intro M hM
  subst hi
  rw [r M (by omega), show most - 0 = most by omega]
theorem lv_n {t c a b d : TS} {l o k most i sg : Int} (h : LVp t c l o k most i) (g0 : GE t c) (hf : tI c 39 0 = -1) (es : sg = siF (tA c 38) (tI c 37 1) (cuR c)) (hl : lvF sg = l) (hi : i < most) (r1 : Rd a = stP (tA c 38) (tI c 37 1) (Rd c)) (g1 : GE t a) (r2 : RLp (l + 1) o k a b) (r3 : Rd d = emP sg 0 (Rd b)) : LVp t d l o k most (i + 1) := by
  intro M hM
  rw [← h M hM, show (most - i).toNat = (most - (i + 1)).toNat + 1 by omega]
  rw [g0.1, g0.2.1] at r1 es
  show _ = (if (Rd c).2.2.2 = -1 ∧ lvF (siF (tA t 38) (tI t 37 1) (cuR c)) = l then _ else _)
  rw [if_pos ⟨hf, by rw [← es]; exact hl⟩, r3, r2 M (by omega), g1.rd, r1, es]
  rfl
theorem lv_e {t c : TS} {l o k most i : Int} (hr : o ≤ 8 ∧ k ≤ 8) (h : LVp t c l o k most i) (g0 : GE t c) (h5 : l < 5) (hm : (l = 2 ∧ most = 1) ∨ (¬ l = 2 ∧ most = 96)) (hx : most ≤ i ∨ ¬ tI c 39 0 = -1 ∨ ¬ lvF (siF (tA c 38) (tI c 37 1) (cuR c)) = l) : RLp l o k t c := by
  intro M hM
  obtain ⟨m, rfl⟩ : ∃ m, M = m + 1 := ⟨M - 1, by omega⟩
  have e := h m (by omega)
  rw [g0.1, g0.2.1] at hx
  have e1 : LPx (tA t 38) (tI t 37 1) (RDt t m (l + 1) o k) l (most - i).toNat (Rd c) = Rd c := by
    rcases hx with hx | hx | hx
    · rw [show (most - i).toNat = 0 by omega]; rfl
    · exact LP_f hx _
    · cases (most - i).toNat with
      | zero => rfl
      | succ j =>
        show (if (Rd c).2.2.2 = -1 ∧ lvF (siF (tA t 38) (tI t 37 1) (cuR c)) = l then _ else _) = _
        rw [if_neg (fun q => hx q.2)]
  rw [e1] at e
  rw [e]
  show _ = (if (5 : Int) ≤ l then _ else LPx (tA t 38) (tI t 37 1) (RDt t m (l + 1) o k) l (if l = 2 then 1 else 96) (RDt t m (l + 1) o k (Rd t)))
  rw [if_neg (by omega)]
  rcases hm with q | q
  · rw [if_pos q.1, q.2]; rfl
  · rw [if_neg q.1, q.2]; rfl
theorem wd_y {t : TS} {j : Nat} {w i : Int} (h1 : tI t 39 7 = 1) (h2 : tI t 39 9 - tI t 39 8 = w) (h3 : WDp (tA t 38) j (tI t 39 8) i) (h4 : i = w) : kyW (tA t 38) (cuR t) j w := by
  subst h4
  exact ⟨h1, h2, h3⟩
theorem wd_n {t : TS} {j : Nat} {w : Int} (h : ¬ (tI t 39 7 = 1 ∧ tI t 39 9 - tI t 39 8 = w)) : ¬ kyW (tA t 38) (cuR t) j w := fun k => h ⟨k.1, k.2.1⟩
theorem wd_x {t : TS} {j : Nat} {w i : Int} (hi : 0 ≤ i ∧ i < w) (h : ¬ tA t 38 (tI t 39 8 + i).toNat = wdF j i) : ¬ kyW (tA t 38) (cuR t) j w := fun k => h (k.2.2 i hi.1 hi.2)
end
section
/-! ===== the game as functions: who lies where, the best laying, days, the picture ===== -/
def abF (x : Int) : Int := if 0 ≤ x then x else 0 - x
def hoF (P : Nat → Int) (p : Int) : Nat → Int
  | 0 => -1
  | k + 1 => if P k = p then (k : Int) else hoF P p k
def HF (P : Nat → Int) (n : Nat) : Nat → Int := fun q => hoF P q n
def InjP (P : Nat → Int) (n : Nat) : Prop := ∀ s s' : Nat, s < n → s' < n → P s = P s' → P s < 12 → s = s'
theorem hoF_r (P : Nat → Int) (p : Int) : ∀ n : Nat, -1 ≤ hoF P p n ∧ hoF P p n < n ∨ hoF P p n = -1
  | 0 => Or.inr rfl
  | n + 1 => by
    unfold hoF
    split
    · left; omega
    · rcases hoF_r P p n with h | h
      · left; omega
      · right; exact h
theorem hoF_b (P : Nat → Int) (p : Int) (n : Nat) : -1 ≤ hoF P p n ∧ hoF P p n ≤ (n : Int) - 1 := by
  rcases hoF_r P p n with h | h <;> omega
theorem hoF_at {P : Nat → Int} {p : Int} : ∀ {n : Nat}, ¬ hoF P p n = -1 → P (hoF P p n).toNat = p
  | 0, h => absurd rfl h
  | n + 1, h => by
    unfold hoF at h ⊢
    by_cases e : P n = p
    · rw [if_pos e]
      simpa using e
    · rw [if_neg e] at h ⊢
      exact hoF_at h
theorem hoF_no {P : Nat → Int} {p : Int} : ∀ {n : Nat}, hoF P p n = -1 → ∀ s, s < n → ¬ P s = p
  | 0, _, s, hs => by omega
  | n + 1, h, s, hs => by
    unfold hoF at h
    by_cases e : P n = p
    · rw [if_pos e] at h; omega
    · rw [if_neg e] at h
      by_cases q : s = n
      · subst q; exact e
      · exact hoF_no h s (by omega)
theorem hoF_none {P : Nat → Int} {p : Int} {n : Nat} (h : ∀ s, s < n → ¬ P s = p) : hoF P p n = -1 := by
  by_cases e : hoF P p n = -1
  · exact e
  · have b := hoF_b P p n
    exact absurd (hoF_at e) (h _ (by omega))
theorem hoF_congr {P Q : Nat → Int} {p : Int} : ∀ {n : Nat}, (∀ s, s < n → P s = Q s) → hoF P p n = hoF Q p n
  | 0, _ => rfl
  | n + 1, h => by
    unfold hoF
    rw [hoF_congr (fun s hs => h s (by omega)), h n (by omega)]
/-- two ways to tell where stones lie, apart from those that lie nowhere -/
theorem hoF_cong2 {P Q : Nat → Int} {p : Int} : ∀ {n : Nat}, (∀ s, s < n → (P s = p ↔ Q s = p)) → hoF P p n = hoF Q p n
  | 0, _ => rfl
  | n + 1, h => by
    unfold hoF
    rw [hoF_cong2 (fun s hs => h s (by omega))]
    by_cases e : P n = p
    · rw [if_pos e, if_pos ((h n (by omega)).mp e)]
    · rw [if_neg e, if_neg (fun q => e ((h n (by omega)).mpr q))]
theorem hoF_is {P : Nat → Int} {p : Int} {n s : Nat} (hi : InjP P n) (hs : s < n) (hp : P s = p) (h12 : p < 12) : hoF P p n = s := by
  by_cases e : hoF P p n = -1
  · exact absurd hp (hoF_no e s hs)
  · have b := hoF_b P p n
    have := hi s (hoF P p n).toNat hs (by omega) (by rw [hp, hoF_at e]) (by omega)
    omega
theorem InjP.up {P : Nat → Int} {n s : Nat} {p : Int} (hi : InjP P n) (h : p < 12 → ∀ q, q < n → P q = p → q = s) : InjP (upF P s p) n := by
  intro a b ha hb e hl
  unfold upF at e hl
  by_cases qa : a = s
  · rw [if_pos qa] at e hl
    by_cases qb : b = s
    · omega
    · rw [if_neg qb] at e
      have := h hl b hb e.symm
      omega
  · rw [if_neg qa] at e hl
    by_cases qb : b = s
    · rw [if_pos qb] at e
      have := h (by omega) a ha e
      omega
    · rw [if_neg qb] at e
      exact hi a b ha hb e hl
theorem InjP.congr {P Q : Nat → Int} {n : Nat} (hi : InjP P n) (h : ∀ s, s < n → P s = Q s) : InjP Q n := by
  intro a b ha hb e hl
  rw [← h a ha, ← h b hb] at e
  rw [← h a ha] at hl
  exact hi a b ha hb e hl
theorem InjP.le {P : Nat → Int} {n m : Nat} (hi : InjP P n) (h : m ≤ n) : InjP P m := fun a b ha hb e hl => hi a b (by omega) (by omega) e hl
/-- what is held, in step with where stones lie -/
def HC (H P : Nat → Int) (n : Nat) : Prop := (∀ q : Nat, q < 12 → H q = hoF P q n) ∧ InjP P n ∧ ∀ s, s < n → 0 ≤ P s
def mvH (H P : Nat → Int) (s : Nat) (p : Int) : Nat → Int := fun i => if p < 12 ∧ i = p.toNat then (s : Int) else if P s < 12 ∧ i = (P s).toNat then -1 else H i
theorem HC.mv {H P : Nat → Int} {n s : Nat} {p : Int} (h : HC H P n) (hs : s < n) (h0 : 0 ≤ p) (hp : p < 12 → H p.toNat = -1 ∨ H p.toNat = s) : HC (mvH H P s p) (upF P s p) n := by
  obtain ⟨h1, h2, h3⟩ := h
  have hq : p < 12 → ∀ q, q < n → P q = p → q = s := by
    intro hl q hqn e
    have e1 := h1 p.toNat (by omega)
    rw [show ((p.toNat : Nat) : Int) = p by omega, hoF_is h2 hqn e hl] at e1
    rcases hp hl with k | k <;> omega
  refine ⟨fun q hqq => ?_, h2.up hq, fun a ha => ?_⟩
  · unfold mvH
    by_cases c1 : p < 12 ∧ q = p.toNat
    · rw [if_pos c1]
      exact (hoF_is (h2.up hq) hs (by unfold upF; rw [if_pos rfl]; omega) (by omega)).symm
    · rw [if_neg c1]
      have e0 : ¬ p = (q : Int) := fun e => c1 ⟨by omega, by omega⟩
      by_cases c2 : P s < 12 ∧ q = (P s).toNat
      · rw [if_pos c2]
        refine (hoF_none (fun a ha e => ?_)).symm
        unfold upF at e
        by_cases qa : a = s
        · rw [if_pos qa] at e; exact e0 e
        · rw [if_neg qa] at e
          have := h3 s hs
          exact qa (h2 a s ha hs (by omega) (by omega))
      · rw [if_neg c2, h1 q hqq]
        refine hoF_cong2 (fun a ha => ?_)
        unfold upF
        by_cases qa : a = s
        · rw [if_pos qa, qa]
          have := h3 s hs
          constructor
          · intro e; exact absurd ⟨by omega, by omega⟩ c2
          · intro e; exact absurd e e0
        · rw [if_neg qa]
  · unfold upF
    split
    · exact h0
    · exact h3 a ha
theorem HC.H {H G P : Nat → Int} {n : Nat} (h : HC H P n) (e : ∀ i, i < 12 → G i = H i) : HC G P n := ⟨fun q hq => by rw [e q hq]; exact h.1 q hq, h.2⟩
theorem HC.at {H P : Nat → Int} {n : Nat} (h : HC H P n) {q : Nat} (hq : q < 12) (h0 : ¬ H q = -1) : P (H q).toNat = q := by
  rw [h.1 q hq] at h0 ⊢
  exact hoF_at h0
theorem HC.add {H P Q : Nat → Int} {n : Nat} (h : HC H P n) (hQ : ∀ s, s < n → Q s = P s) (hn : Q n = 12) : HC H Q (n + 1) := by
  refine ⟨fun q hq => ?_, fun a b ha hb e hl => ?_, fun s hs => ?_⟩
  · unfold hoF
    rw [if_neg (by omega), h.1 q hq]
    exact hoF_congr (fun s hs => (hQ s hs).symm)
  · by_cases qa : a = n
    · subst qa; omega
    · by_cases qb : b = n
      · subst qb; omega
      · rw [hQ a (by omega), hQ b (by omega)] at e
        rw [hQ a (by omega)] at hl
        exact h.2.1 a b (by omega) (by omega) e hl
  · by_cases q : s = n
    · subst q; omega
    · rw [hQ s (by omega)]; exact h.2.2 s (by omega)
/-! the best laying at a place -/
def lbF (O : Nat → Nat → Int) (P : Nat → Int) : Nat → Int × Int × Int
  | 0 => (-1, 0, 0)
  | k + 1 => if P (k / 2) = 12 ∧ ((lbF O P k).1 = -1 ∨ O (k / 2) (k % 2) < (lbF O P k).2.1) then (((k / 2 : Nat) : Int), O (k / 2) (k % 2), ((k % 2 : Nat) : Int)) else lbF O P k
theorem lbF_r (O : Nat → Nat → Int) (P : Nat → Int) : ∀ k : Nat, ((lbF O P k).1 = -1 ∨ (0 ≤ (lbF O P k).1 ∧ 2 * (lbF O P k).1 < k ∧ P (lbF O P k).1.toNat = 12)) ∧ 0 ≤ (lbF O P k).2.2 ∧ (lbF O P k).2.2 ≤ 1
  | 0 => ⟨Or.inl rfl, Int.le_refl 0, by show (0 : Int) ≤ 1; decide⟩
  | k + 1 => by
    have ih := lbF_r O P k
    unfold lbF
    split
    · rename_i h
      refine ⟨Or.inr ⟨by show (0 : Int) ≤ ((k / 2 : Nat) : Int); omega, by show 2 * ((k / 2 : Nat) : Int) < _; omega, h.1⟩, by show (0 : Int) ≤ ((k % 2 : Nat) : Int); omega, by show ((k % 2 : Nat) : Int) ≤ 1; omega⟩
    · refine ⟨?_, ih.2⟩
      rcases ih.1 with h | h
      · exact Or.inl h
      · exact Or.inr ⟨h.1, by omega, h.2.2⟩
theorem lbF_congr {O O' : Nat → Nat → Int} {P P' : Nat → Int} {n : Nat} (hO : ∀ s u : Nat, s < n → u < 2 → O s u = O' s u) (hP : ∀ s, s < n → P s = P' s) : ∀ k : Nat, k ≤ 2 * n → lbF O P k = lbF O' P' k
  | 0, _ => rfl
  | k + 1, h => by
    unfold lbF
    rw [lbF_congr hO hP k (by omega), hO (k / 2) (k % 2) (by omega) (by omega), hP (k / 2) (by omega)]
def lb1 (O : Nat → Nat → Int) (P : Nat → Int) (k : Nat) (which least way : Int) : Prop := which = (lbF O P k).1 ∧ least = (lbF O P k).2.1 ∧ way = (lbF O P k).2.2
theorem lb1.n {O : Nat → Nat → Int} {P : Nat → Int} {k : Nat} {which least way : Int} (h : lb1 O P k which least way) (e : ¬ (P (k / 2) = 12 ∧ (which = -1 ∨ O (k / 2) (k % 2) < least))) : lb1 O P (k + 1) which least way := by
  obtain ⟨h1, h2, h3⟩ := h
  rw [h1, h2] at e
  unfold lb1 lbF
  rw [if_neg e]
  exact ⟨h1, h2, h3⟩
theorem lb1.y {O : Nat → Nat → Int} {P : Nat → Int} {k : Nat} {which least way w2 l2 y2 : Int} (h : lb1 O P k which least way) (e : P (k / 2) = 12 ∧ (which = -1 ∨ O (k / 2) (k % 2) < least)) (h1 : w2 = ((k / 2 : Nat) : Int)) (h2 : l2 = O (k / 2) (k % 2)) (h3 : y2 = ((k % 2 : Nat) : Int)) : lb1 O P (k + 1) w2 l2 y2 := by
  obtain ⟨g1, g2, g3⟩ := h
  rw [g1, g2] at e
  unfold lb1 lbF
  rw [if_pos e]
  exact ⟨h1, h2, h3⟩
/-! days -/
def feF (H : Nat → Int) (r : Int) : Int := if H (r * 3).toNat = -1 then r * 3 else if H (r * 3 + 1).toNat = -1 then r * 3 + 1 else if H (r * 3 + 2).toNat = -1 then r * 3 + 2 else -1
theorem feF_e {H : Nat → Int} {r z : Int} (h : (r * 3 ≤ z ∧ z < r * 3 + 3 ∧ H z.toNat = -1 ∧ ∀ q : Int, r * 3 ≤ q → q < z → ¬ H q.toNat = -1) ∨ (z = -1 ∧ ∀ q : Int, r * 3 ≤ q → q < r * 3 + 3 → ¬ H q.toNat = -1)) : z = feF H r := by
  unfold feF
  rcases h with ⟨h1, h2, h3, h4⟩ | ⟨h1, h2⟩
  · have : z = r * 3 ∨ z = r * 3 + 1 ∨ z = r * 3 + 2 := by omega
    rcases this with e | e | e
    · subst e; rw [if_pos h3]
    · subst e; rw [if_neg (h4 _ (by omega) (by omega)), if_pos h3]
    · subst e; rw [if_neg (h4 _ (by omega) (by omega)), if_neg (h4 _ (by omega) (by omega)), if_pos h3]
  · rw [if_neg (h2 _ (by omega) (by omega)), if_neg (h2 _ (by omega) (by omega)), if_neg (h2 _ (by omega) (by omega)), h1]
theorem feF_r {H : Nat → Int} {r : Int} (hr : 0 ≤ r ∧ r ≤ 3) : feF H r = -1 ∨ (0 ≤ feF H r ∧ feF H r < 12 ∧ H (feF H r).toNat = -1) := by
  unfold feF
  split
  · right; exact ⟨by omega, by omega, by assumption⟩
  · split
    · right; exact ⟨by omega, by omega, by assumption⟩
    · split
      · right; exact ⟨by omega, by omega, by assumption⟩
      · left; rfl
theorem feF_congr {H H' : Nat → Int} {r : Int} (hr : 0 ≤ r ∧ r ≤ 3) (h : ∀ q, q < 12 → H q = H' q) : feF H r = feF H' r := by
  unfold feF
  rw [h _ (by omega), h _ (by omega), h _ (by omega)]
abbrev GPU : Type := (Nat → Int) × (Nat → Int)
def lyF (n : Nat) (O : Nat → Nat → Nat → Int) (r : Int) (x : GPU) : GPU :=
  if feF (HF x.1 n) r = -1 then x else if (lbF (fun s u => O s (feF (HF x.1 n) r).toNat u) x.1 (2 * n)).1 = -1 then x else (upF x.1 (lbF (fun s u => O s (feF (HF x.1 n) r).toNat u) x.1 (2 * n)).1.toNat (feF (HF x.1 n) r), upF x.2 (lbF (fun s u => O s (feF (HF x.1 n) r).toNat u) x.1 (2 * n)).1.toNat (lbF (fun s u => O s (feF (HF x.1 n) r).toNat u) x.1 (2 * n)).2.2)
def tuF (n : Nat) (p : Int) (x : GPU) : GPU := if hoF x.1 p n = -1 then x else (x.1, upF x.2 (hoF x.1 p n).toNat (1 - x.2 (hoF x.1 p n).toNat))
def dyF (n : Nat) (O : Nat → Nat → Nat → Int) (w z : Int) (x : GPU) : GPU := if drF (znF (znF z)) % 100 < w then tuF n (drF (znF (znF (znF z))) % 12) (lyF n O (drF (znF z) % 4) x) else lyF n O (drF (znF z) % 4) x
def dysF (n : Nat) (O : Nat → Nat → Nat → Int) (w z : Int) : Nat → GPU → GPU
  | 0, x => x
  | k + 1, x => dyF n O w (zdsF k z w) (dysF n O w z k x)
def Agr (n : Nat) (x y : GPU) : Prop := ∀ s, s < n → x.1 s = y.1 s ∧ x.2 s = y.2 s
def AgO (n : Nat) (O O' : Nat → Nat → Nat → Int) : Prop := ∀ s p u : Nat, s < n → p < 12 → u < 2 → O s p u = O' s p u
theorem Agr.up {n : Nat} {x y : GPU} (h : Agr n x y) (s : Nat) (a b : Int) : Agr n (upF x.1 s a, upF x.2 s b) (upF y.1 s a, upF y.2 s b) := by
  intro q hq
  obtain ⟨h1, h2⟩ := h q hq
  unfold upF
  simp only []
  rw [h1, h2]
  exact ⟨rfl, rfl⟩
theorem HF_congr {n : Nat} {x y : GPU} (h : Agr n x y) : HF x.1 n = HF y.1 n := by
  funext q
  exact hoF_congr (fun s hs => (h s hs).1)
theorem lyF_agr {n : Nat} {O O' : Nat → Nat → Nat → Int} {r : Int} {x y : GPU} (h : Agr n x y) (hO : AgO n O O') (hr : 0 ≤ r ∧ r ≤ 3) : Agr n (lyF n O r x) (lyF n O' r y) := by
  unfold lyF
  rw [HF_congr h]
  rcases feF_r (H := HF y.1 n) hr with e | e
  · rw [if_pos e, if_pos e]; exact h
  · have en : ¬ feF (HF y.1 n) r = -1 := by omega
    rw [if_neg en, if_neg en, lbF_congr (n := n) (O' := fun s u => O' s (feF (HF y.1 n) r).toNat u) (fun s u hs hu => hO s _ u hs (by omega) hu) (fun s hs => (h s hs).1) (2 * n) (Nat.le_refl _)]
    by_cases q : (lbF (fun s u => O' s (feF (HF y.1 n) r).toNat u) y.1 (2 * n)).1 = -1
    · rw [if_pos q, if_pos q]; exact h
    · rw [if_neg q, if_neg q]; exact h.up _ _ _
theorem tuF_agr {n : Nat} {p : Int} {x y : GPU} (h : Agr n x y) : Agr n (tuF n p x) (tuF n p y) := by
  unfold tuF
  have e : hoF x.1 p n = hoF y.1 p n := hoF_congr (fun s hs => (h s hs).1)
  rw [e]
  split
  · exact h
  · have b := hoF_b y.1 p n
    rw [(h (hoF y.1 p n).toNat (by omega)).2]
    intro q hq
    obtain ⟨h1, h2⟩ := h q hq
    refine ⟨h1, ?_⟩
    show upF x.2 _ _ q = upF y.2 _ _ q
    unfold upF
    rw [h2]
theorem dyF_agr {n : Nat} {O O' : Nat → Nat → Nat → Int} {w z : Int} {x y : GPU} (h : Agr n x y) (hO : AgO n O O') : Agr n (dyF n O w z x) (dyF n O' w z y) := by
  have r := drF_r (znF z)
  have k := lyF_agr (r := drF (znF z) % 4) h hO (by omega)
  unfold dyF
  split
  · exact tuF_agr k
  · exact k
theorem dysF_agr {n : Nat} {O O' : Nat → Nat → Nat → Int} {w z : Int} {x y : GPU} (h : Agr n x y) (hO : AgO n O O') : ∀ k : Nat, Agr n (dysF n O w z k x) (dysF n O' w z k y)
  | 0 => h
  | k + 1 => dyF_agr (dysF_agr h hO k) hO
/-! what is read off -/
def picH (O : Nat → Nat → Nat → Int) (U H : Nat → Int) : Nat → Int
  | 0 => 0
  | p + 1 => picH O U H p + (if H p = -1 then 198 else O (H p).toNat p (U (H p).toNat).toNat)
def spF2 (L R : Nat → Int) (s : Nat) (h u : Int) : Int := if h = u then L s else R s
def mtP (L R U H : Nat → Int) (p : Nat) : Prop := ¬ (p + 1) % 3 = 0 ∧ ¬ H p = -1 ∧ ¬ H (p + 1) = -1 ∧ spF2 L R (H p).toNat 1 (U (H p).toNat) = spF2 L R (H (p + 1)).toNat 0 (U (H (p + 1)).toNat)
def mtI (L R U H : Nat → Int) (p : Nat) : Int := if ¬ (p + 1) % 3 = 0 ∧ ¬ H p = -1 ∧ ¬ H (p + 1) = -1 ∧ spF2 L R (H p).toNat 1 (U (H p).toNat) = spF2 L R (H (p + 1)).toNat 0 (U (H (p + 1)).toNat) then 1 else 0
def maH (L R U H : Nat → Int) : Nat → Int
  | 0 => 0
  | p + 1 => maH L R U H p + mtI L R U H p
def cnH (H : Nat → Int) : Nat → Int
  | 0 => 0
  | p + 1 => cnH H p + (if H p = -1 then 0 else 1)
def phH (H : Nat → Int) : Nat → Int
  | 0 => 0
  | p + 1 => if H p = -1 then phH H p else fZ (fun x y => x ||| y) (phH H p) (fZ (fun x y => x <<< (y &&& 31)) 1 (p : Int))
def caF (P : Nat → Int) : Nat → Int
  | 0 => 0
  | s + 1 => caF P s + (if P s = 12 then 0 else 1)
def AgH (U H U' H' : Nat → Int) : Prop := ∀ p, p < 12 → H p = H' p ∧ (¬ H p = -1 → U (H p).toNat = U' (H p).toNat)
theorem picH_congr {n : Nat} {O O' : Nat → Nat → Nat → Int} {U H U' H' : Nat → Int} (h : AgH U H U' H') (hn : ∀ p, p < 12 → H p < (n : Int) ∧ -1 ≤ H p) (hu : ∀ s, 0 ≤ U s ∧ U s ≤ 1) (hO : AgO n O O') : ∀ m : Nat, m ≤ 12 → picH O U H m = picH O' U' H' m
  | 0, _ => rfl
  | m + 1, hm => by
    obtain ⟨h1, h2⟩ := h m (by omega)
    have b := hn m (by omega)
    unfold picH
    rw [picH_congr h hn hu hO m (by omega), ← h1]
    by_cases e : H m = -1
    · rw [if_pos e, if_pos e]
    · have u := hu (H m).toNat
      rw [if_neg e, if_neg e, ← h2 e, hO _ m _ (by omega) (by omega) (by omega)]
theorem maH_congr {n : Nat} {L R L' R' U H U' H' : Nat → Int} (h : AgH U H U' H') (hn : ∀ p, p < 12 → H p < (n : Int) ∧ -1 ≤ H p) (hL : ∀ s, s < n → L s = L' s ∧ R s = R' s) : ∀ m : Nat, m ≤ 11 → maH L R U H m = maH L' R' U' H' m
  | 0, _ => rfl
  | m + 1, hm => by
    obtain ⟨h1, h2⟩ := h m (by omega)
    obtain ⟨k1, k2⟩ := h (m + 1) (by omega)
    have b := hn m (by omega)
    have d := hn (m + 1) (by omega)
    unfold maH mtI
    rw [maH_congr h hn hL m (by omega), ← h1, ← k1]
    by_cases e : ¬ (m + 1) % 3 = 0 ∧ ¬ H m = -1 ∧ ¬ H (m + 1) = -1
    · have a1 := hL (H m).toNat (by omega)
      have a2 := hL (H (m + 1)).toNat (by omega)
      have e1 : spF2 L R (H m).toNat 1 (U (H m).toNat) = spF2 L' R' (H m).toNat 1 (U' (H m).toNat) := by
        unfold spF2; rw [a1.1, a1.2, h2 e.2.1]
      have e2 : spF2 L R (H (m + 1)).toNat 0 (U (H (m + 1)).toNat) = spF2 L' R' (H (m + 1)).toNat 0 (U' (H (m + 1)).toNat) := by
        unfold spF2; rw [a2.1, a2.2, k2 e.2.2]
      rw [e1, e2]
    · rw [if_neg (fun q => e ⟨q.1, q.2.1, q.2.2.1⟩), if_neg (fun q => e ⟨q.1, q.2.1, q.2.2.1⟩)]
theorem cnH_congr {H H' : Nat → Int} : ∀ m : Nat, (∀ p, p < m → H p = H' p) → cnH H m = cnH H' m
  | 0, _ => rfl
  | m + 1, h => by
    unfold cnH
    rw [cnH_congr m (fun p hp => h p (by omega)), h m (by omega)]
theorem phH_congr {H H' : Nat → Int} : ∀ m : Nat, (∀ p, p < m → H p = H' p) → phH H m = phH H' m
  | 0, _ => rfl
  | m + 1, h => by
    unfold phH
    rw [phH_congr m (fun p hp => h p (by omega)), h m (by omega)]
theorem caF_congr {P P' : Nat → Int} : ∀ n : Nat, (∀ s, s < n → P s = P' s) → caF P n = caF P' n
  | 0, _ => rfl
  | n + 1, h => by
    unfold caF
    rw [caF_congr n (fun s hs => h s (by omega)), h n (by omega)]
theorem cnH_up {H G : Nat → Int} {a : Nat} (h1 : H a = -1) (h2 : ¬ G a = -1) (h3 : ∀ q, ¬ q = a → G q = H q) : ∀ m : Nat, cnH G m = cnH H m + (if a < m then 1 else 0)
  | 0 => by simp [cnH]
  | m + 1 => by
    unfold cnH
    rw [cnH_up h1 h2 h3 m]
    by_cases e : m = a
    · subst e
      rw [if_neg h2, if_pos h1, if_neg (show ¬ m < m by omega), if_pos (show m < m + 1 by omega), Int.add_zero]
    · rw [h3 m e]
      generalize (if H m = -1 then (0 : Int) else 1) = w
      by_cases q : a < m
      · rw [if_pos q, if_pos (show a < m + 1 by omega)]; omega
      · rw [if_neg q, if_neg (show ¬ a < m + 1 by omega)]; omega
theorem cn_ca {P : Nat → Int} : ∀ n : Nat, InjP P n → (∀ s, s < n → 0 ≤ P s ∧ P s ≤ 12) → cnH (HF P n) 12 = caF P n
  | 0, _, _ => rfl
  | n + 1, hi, hr => by
    have ih := cn_ca n (hi.le (by omega)) (fun s hs => hr s (by omega))
    have b := hr n (by omega)
    unfold caF
    by_cases e : P n = 12
    · rw [if_pos e, ← ih]
      rw [show ∀ x : Int, x + 0 = x from Int.add_zero]
      refine cnH_congr 12 (fun p hp => ?_)
      show (if P n = (p : Int) then (n : Int) else hoF P p n) = hoF P p n
      rw [if_neg (by omega)]
    · rw [if_neg e, ← ih]
      have q := cnH_up (H := HF P n) (G := HF P (n + 1)) (a := (P n).toNat) ?_ ?_ ?_ 12
      · rw [if_pos (by omega)] at q; exact q
      · show hoF P _ n = -1
        refine hoF_none (fun s hs k => ?_)
        have := hi s n (by omega) (by omega) (by omega) (by omega)
        omega
      · show ¬ hoF P _ (n + 1) = -1
        unfold hoF
        rw [if_pos (by omega)]
        omega
      · intro q hq
        show (if P n = (q : Int) then (n : Int) else hoF P q n) = hoF P q n
        rw [if_neg (by omega)]
end
