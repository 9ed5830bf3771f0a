/-! ===== the two ways to read a text, as functions ===== -/
abbrev PCu : Type := Int × Int × Int × Int
abbrev PPs : Type := PCu × List (Int × Int) × Int × Int
abbrev PRs : Type := Int × List Int × Int
abbrev PSs : Type := PCu × List Int × List Int × Int × Int × Int × Int × (Nat → Int)
def skF (g : Nat → Int) (n : Int) : Nat → Int → Int
  | 0, p => p
  | k + 1, p => if p < n ∧ g p.toNat = 32 then skF g n k (p + 1) else p
def soF (g : Nat → Int) (n p : Int) : Int := if n ≤ p then 0 else if 97 ≤ g p.toNat ∧ g p.toNat ≤ 122 then 1 else if 48 ≤ g p.toNat ∧ g p.toNat ≤ 57 then 2 else 3
def ruF (g : Nat → Int) (n s : Int) : Nat → Int → Int
  | 0, p => p
  | k + 1, p => if p < n ∧ soF g n p = s then ruF g n s k (p + 1) else p
def spF (g : Nat → Int) (n a : Int) : Int := if soF g n a = 0 then a else if soF g n a = 3 then a + 1 else ruF g n (soF g n a) 97 (a + 1)
def stC (g : Nat → Int) (n : Int) (c : PCu) : PCu := (skF g n 97 c.2.2.1, soF g n (skF g n 97 c.2.2.1), spF g n (skF g n 97 c.2.2.1), if (c.2.1 = 1 ∨ c.2.1 = 2) ∧ skF g n 97 c.2.2.1 = c.2.2.1 then 1 else 0)
def siF (g : Nat → Int) (n : Int) (c : PCu) : Int := if c.2.1 = 3 ∧ c.1 < n then g c.1.toNat else 0
def lvF (s : Int) : Int := if s = 124 then 0 else if s = 38 then 1 else if s = 60 ∨ s = 61 ∨ s = 62 then 2 else if s = 43 ∨ s = 45 then 3 else if s = 42 ∨ s = 47 then 4 else -1
def sgF (s : Int) : Int := if s = 124 then -1 else if s = 38 then -2 else if s = 60 then -3 else if s = 61 then -4 else if s = 62 then -5 else if s = 43 then -6 else if s = 45 then -7 else if s = 42 then -8 else if s = 47 then -9 else 0
def rkF (s : Int) : Int := if s = -1 then 1 else if s = -2 then 2 else if -5 ≤ s then 3 else if -7 ≤ s then 4 else if -9 ≤ s then 5 else 6
def numF (g : Nat → Int) (a : Nat) : Nat → Int
  | 0 => 0
  | j + 1 => 10 * numF g a j + g (a + j) - 48
def trF (x : Int × Int) : Int := if x.1 = 0 then x.2 else if x.1 = 1 then 10000 + x.2 else if x.1 = 33 then -10 else sgF x.1
def emP (s v : Int) (x : PPs) : PPs := (x.1, (s, v) :: x.2.1, x.2.2.1, x.2.2.2)
def ftP (x : PPs) : PPs := (x.1, x.2.1, x.2.2.1, x.1.1)
def stP (g : Nat → Int) (n : Int) (x : PPs) : PPs := (stC g n x.1, x.2.1, x.2.2.1, x.2.2.2)
def opP (g : Nat → Int) (n q : Int) (x : PPs) : PPs := if x.1.2.2.2 = 1 then ftP x else if x.1.2.1 = 2 ∧ x.1.2.2.1 - x.1.1 ≤ 4 then (stC g n x.1, (0, numF g x.1.1.toNat (x.1.2.2.1 - x.1.1).toNat) :: x.2.1, x.2.2.1 + 1, x.2.2.2) else if x.1.2.1 = 1 ∧ x.1.2.2.1 - x.1.1 = 1 ∧ ¬ nmF q (g x.1.1.toNat) = -1 then (stC g n x.1, (1, nmF q (g x.1.1.toNat)) :: x.2.1, x.2.2.1 + 1, x.2.2.2) else ftP x
def clP (g : Nat → Int) (n : Int) (x : PPs) : PPs := if ¬ x.2.2.2 = -1 then x else if siF g n x.1 = 41 then stP g n x else ftP x
def LPx (g : Nat → Int) (n : Int) (f : PPs → PPs) (l : Int) : Nat → PPs → PPs
  | 0, x => x
  | i + 1, x => if x.2.2.2 = -1 ∧ lvF (siF g n x.1) = l then LPx g n f l i (emP (siF g n x.1) 0 (f (stP g n x))) else x
def RD (g : Nat → Int) (n q : Int) : Nat → Int → Int → Int → PPs → PPs
  | 0, _, _, _, x => x
  | m + 1, l, o, k, x => if 5 ≤ l then (if siF g n x.1 = 33 ∧ k < 8 then emP 33 0 (RD g n q m 5 o (k + 1) (stP g n x)) else if siF g n x.1 = 40 ∧ o < 8 then clP g n (RD g n q m 0 (o + 1) k (stP g n x)) else opP g n q x) else LPx g n (RD g n q m (l + 1) o k) l (if l = 2 then 1 else 96) (RD g n q m (l + 1) o k x)
def tkF (c : PCu) : Int := if c.2.1 = 1 then (if c.2.2.2 = 1 then 4 else 1) else if c.2.1 = 2 then (if c.2.2.2 = 1 ∨ 4 < c.2.2.1 - c.1 then 4 else 2) else c.2.1
def stF (b : Int) : List Int → List Int → List Int × List Int
  | [], O => ([], O)
  | a :: S, O => if ¬ a = -11 ∧ b ≤ rkF a then stF b S (a :: O) else (a :: S, O)
def noS : List Int → Int
  | [] => 0
  | a :: S => noS S + (if a = -10 then 1 else 0)
def upF (T : Nat → Int) (j : Nat) (v : Int) : Nat → Int := fun i => if i = j then v else T i
def opV (g : Nat → Int) (q : Int) (c : PCu) : Int := if tkF c = 2 then numF g c.1.toNat (c.2.2.1 - c.1).toNat else 10000 + nmF q (g c.1.toNat)
def sy1 (g : Nat → Int) (n q : Int) (c : PCu) (S O : List Int) (a w p k : Int) (T : Nat → Int) : PSs ⊕ PRs :=
  if w = 0 ∧ tkF c = 0 then .inr (if p = 0 then (-1, (stF 0 S O).2, a) else (c.1, [], 0))
  else if ¬ w = 0 then
    (if siF g n c = 33 ∧ k < 8 then .inl (stC g n c, -10 :: S, O, a, 1, p, noS (-10 :: S), T)
    else if siF g n c = 40 ∧ p < 8 then .inl (stC g n c, -11 :: S, O, a, 1, p + 1, noS (-11 :: S), upF T (p + 1).toNat 0)
    else if tkF c = 2 ∨ (tkF c = 1 ∧ c.2.2.1 - c.1 = 1 ∧ 0 ≤ nmF q (g c.1.toNat)) then .inl (stC g n c, (stF 6 S (opV g q c :: O)).1, (stF 6 S (opV g q c :: O)).2, a + 1, 0, p, noS (stF 6 S (opV g q c :: O)).1, T)
    else .inr (c.1, [], 0))
  else if siF g n c = 41 ∧ 0 < p then .inl (stC g n c, (stF 6 (stF 0 S O).1.tail (stF 0 S O).2).1, (stF 6 (stF 0 S O).1.tail (stF 0 S O).2).2, a, 0, p - 1, noS (stF 6 (stF 0 S O).1.tail (stF 0 S O).2).1, T)
  else if sgF (siF g n c) = 0 ∨ (rkF (sgF (siF g n c)) = 3 ∧ ¬ T p.toNat = 0) then .inr (c.1, [], 0)
  else .inl (stC g n c, sgF (siF g n c) :: (stF (rkF (sgF (siF g n c))) S O).1, (stF (rkF (sgF (siF g n c))) S O).2, a, 1, p, k, upF T p.toNat (if rkF (sgF (siF g n c)) = 3 ∨ (3 < rkF (sgF (siF g n c)) ∧ ¬ T p.toNat = 0) then 1 else 0))
def syS (g : Nat → Int) (n q : Int) (s : PSs) : PSs ⊕ PRs := sy1 g n q s.1 s.2.1 s.2.2.1 s.2.2.2.1 s.2.2.2.2.1 s.2.2.2.2.2.1 s.2.2.2.2.2.2.1 s.2.2.2.2.2.2.2
def syr (g : Nat → Int) (n q : Int) : Nat → PSs → Option PRs
  | 0, _ => none
  | m + 1, s => match syS g n q s with
    | .inl s' => syr g n q m s'
    | .inr r => some r
def Rch (g : Nat → Int) (n q : Int) (s s' : PSs) : Prop := ∀ k r, syr g n q k s' = some r → ∃ k', syr g n q k' s = some r
def Rft (g : Nat → Int) (n q : Int) (s : PSs) (f : Int) : Prop := ∃ k r, syr g n q k s = some r ∧ r.1 = f
theorem Rch.rf {g : Nat → Int} {n q : Int} (s : PSs) : Rch g n q s s := fun k _ h => ⟨k, h⟩
theorem Rch.tr {g : Nat → Int} {n q : Int} {a b c : PSs} (h : Rch g n q a b) (h' : Rch g n q b c) : Rch g n q a c := fun k r e => by
  obtain ⟨k1, e1⟩ := h' k r e
  exact h k1 r e1
theorem Rch.st {g : Nat → Int} {n q : Int} {s s' : PSs} (h : syS g n q s = .inl s') : Rch g n q s s' := fun k r e => ⟨k + 1, by
  show (match syS g n q s with
    | .inl s' => syr g n q k s'
    | .inr r => some r) = some r
  rw [h]
  exact e⟩
theorem Rft.of {g : Nat → Int} {n q f : Int} {s s' : PSs} (h : Rch g n q s s') (h' : Rft g n q s' f) : Rft g n q s f := by
  obtain ⟨k, r, e, e2⟩ := h'
  obtain ⟨k1, e1⟩ := h k r e
  exact ⟨k1, r, e1, e2⟩
theorem syr_dn {g : Nat → Int} {n q : Int} {s : PSs} {r : PRs} (h : syS g n q s = .inr r) : syr g n q 1 s = some r := by
  show (match syS g n q s with
    | .inl s' => syr g n q 0 s'
    | .inr r => some r) = some r
  rw [h]
theorem Rft.dn {g : Nat → Int} {n q : Int} {s : PSs} {r : PRs} (h : syS g n q s = .inr r) : Rft g n q s r.1 := ⟨1, r, syr_dn h, rfl⟩
theorem syr_up {g : Nat → Int} {n q : Int} : ∀ {k : Nat} {s : PSs} {r : PRs}, syr g n q k s = some r → ∀ j, syr g n q (k + j) s = some r
  | 0, _, _, h, _ => by cases h
  | k + 1, s, r, h, j => by
    rw [show k + 1 + j = (k + j) + 1 by omega]
    have h1 : (match syS g n q s with
      | .inl s' => syr g n q k s'
      | .inr r => some r) = some r := h
    show (match syS g n q s with
      | .inl s' => syr g n q (k + j) s'
      | .inr r => some r) = some r
    cases e : syS g n q s with
    | inl s' => rw [e] at h1; exact syr_up h1 j
    | inr r' => rw [e] at h1; exact h1
theorem syr_un {g : Nat → Int} {n q : Int} {k j : Nat} {s : PSs} {r r' : PRs} (h : syr g n q k s = some r) (h' : syr g n q j s = some r') : r = r' := by
  have a := syr_up h j
  have b := syr_up h' k
  rw [Nat.add_comm j k, a] at b
  exact Option.some.inj b
/-! what a cursor is -/
def WC (n : Int) (c : PCu) : Prop := 0 ≤ c.1 ∧ c.1 ≤ c.2.2.1 ∧ c.2.2.1 ≤ n ∧ 0 ≤ c.2.1 ∧ c.2.1 ≤ 3 ∧ (c.2.1 = 0 → c.1 = n) ∧ (¬ c.2.1 = 0 → c.1 < c.2.2.1)
theorem skF_b {g : Nat → Int} {n : Int} : ∀ (k : Nat) (p : Int), p ≤ n → p ≤ skF g n k p ∧ skF g n k p ≤ n
  | 0, p, h => ⟨Int.le_refl _, h⟩
  | k + 1, p, h => by
    unfold skF
    split
    · have := skF_b (g := g) (n := n) k (p + 1) (by omega)
      omega
    · omega
theorem ruF_b {g : Nat → Int} {n s : Int} : ∀ (k : Nat) (p : Int), p ≤ n → p ≤ ruF g n s k p ∧ ruF g n s k p ≤ n
  | 0, p, h => ⟨Int.le_refl _, h⟩
  | k + 1, p, h => by
    unfold ruF
    split
    · have := ruF_b (g := g) (n := n) (s := s) k (p + 1) (by omega)
      omega
    · omega
theorem soF_b (g : Nat → Int) (n p : Int) : 0 ≤ soF g n p ∧ soF g n p ≤ 3 ∧ (soF g n p = 0 ↔ n ≤ p) := by
  unfold soF
  (repeat' split) <;> omega
theorem spF_b {g : Nat → Int} {n a : Int} (h : a ≤ n) : a ≤ spF g n a ∧ spF g n a ≤ n ∧ (¬ soF g n a = 0 → a < spF g n a) := by
  have s := soF_b g n a
  unfold spF
  split
  · omega
  · split
    · omega
    · have := ruF_b (g := g) (n := n) (s := soF g n a) 97 (a + 1) (by omega)
      omega
theorem WC.st {g : Nat → Int} {n : Int} {c : PCu} (h0 : 0 ≤ c.2.2.1) (h : c.2.2.1 ≤ n) : WC n (stC g n c) ∧ c.2.2.1 ≤ (stC g n c).1 := by
  have a := skF_b (g := g) (n := n) 97 c.2.2.1 h
  have b := soF_b g n (skF g n 97 c.2.2.1)
  have d := spF_b (g := g) a.2
  unfold WC stC
  simp only []
  omega
theorem WC.nx {g : Nat → Int} {n : Int} {c : PCu} (h : WC n c) : WC n (stC g n c) ∧ c.1 ≤ (stC g n c).1 ∧ (¬ c.2.1 = 0 → c.1 < (stC g n c).1) := by
  have a := WC.st (g := g) (n := n) (c := c) (by have := h.1; have := h.2.1; omega) h.2.2.1
  have b := h.2.1
  have d := h.2.2.2.2.2.2
  refine ⟨a.1, by omega, fun q => ?_⟩
  have := d q
  omega
theorem siF_s {g : Nat → Int} {n : Int} {c : PCu} (h : ¬ siF g n c = 0) : c.2.1 = 3 := by
  unfold siF at h
  split at h
  · rename_i h2; exact h2.1
  · exact absurd rfl h
theorem tk_0 {n : Int} {c : PCu} (h : WC n c) : tkF c = 0 ↔ c.2.1 = 0 := by
  unfold tkF
  (repeat' split) <;> omega
theorem lv_s {s l : Int} (h : lvF s = l) (h0 : 0 ≤ l) : ¬ sgF s = 0 ∧ rkF (sgF s) = l + 1 ∧ ¬ sgF s = -11 ∧ ¬ sgF s = -10 ∧ trF (s, 0) = sgF s ∧ ¬ s = 41 ∧ ¬ s = 0 ∧ l ≤ 4 := by
  have q : s = 124 ∨ s = 38 ∨ s = 60 ∨ s = 61 ∨ s = 62 ∨ s = 43 ∨ s = 45 ∨ s = 42 ∨ s = 47 := by
    unfold lvF at h
    (repeat' split at h) <;> omega
  subst h
  rcases q with rfl | rfl | rfl | rfl | rfl | rfl | rfl | rfl | rfl <;> decide
theorem sg_lv {s : Int} (h : ¬ sgF s = 0) : 0 ≤ lvF s ∧ lvF s ≤ 4 := by
  have q : s = 124 ∨ s = 38 ∨ s = 60 ∨ s = 61 ∨ s = 62 ∨ s = 43 ∨ s = 45 ∨ s = 42 ∨ s = 47 := by
    unfold sgF at h
    (repeat' split at h) <;> omega
  rcases q with rfl | rfl | rfl | rfl | rfl | rfl | rfl | rfl | rfl <;> decide
def TopOK (l : Int) (S : List Int) : Prop := ∀ a, S.head? = some a → a = -11 ∨ rkF a ≤ l
theorem stF_top {l b : Int} {S O : List Int} (h : TopOK l S) (hb : l < b) : stF b S O = (S, O) := by
  cases S with
  | nil => rfl
  | cons a S =>
    have := h a rfl
    unfold stF
    rw [if_neg (by omega)]
theorem stF_stF {a b : Int} (h : a ≤ b) : ∀ (S O : List Int), stF a (stF b S O).1 (stF b S O).2 = stF a S O
  | [], O => rfl
  | x :: S, O => by
    by_cases q : ¬ x = -11 ∧ b ≤ rkF x
    · have e1 : stF b (x :: S) O = stF b S (x :: O) := by
        show (if _ then _ else _) = _
        rw [if_pos q]
      have e2 : stF a (x :: S) O = stF a S (x :: O) := by
        show (if _ then _ else _) = _
        rw [if_pos ⟨q.1, by omega⟩]
      rw [e1, e2]
      exact stF_stF h S (x :: O)
    · have e1 : stF b (x :: S) O = (x :: S, O) := by
        show (if _ then _ else _) = _
        rw [if_neg q]
      rw [e1]
theorem stF_eq {a b : Int} {S S' O O' : List Int} (h : a ≤ b) (e : stF b S' O' = (S, O)) : stF a S' O' = stF a S O := by
  rw [← stF_stF h S' O', e]
/-! the two ways give the same -/
def PcS (g : Nat → Int) (n q : Int) (M : Nat) : Prop := ∀ (o k : Int) (c : PCu) (out : List (Int × Int)) (a : Int) (S O : List Int) (T : Nat → Int), 0 ≤ o → o ≤ 8 → 0 ≤ k → k ≤ 8 → 7 * (8 - o) + (8 - k) < (M : Int) → noS S = k → WC n c →
  ((RD g n q M 5 o k (c, out, a, -1)).2.2.2 = -1 → ∃ D T', (RD g n q M 5 o k (c, out, a, -1)).2.1 = D ++ out ∧ Rch g n q (c, S, O, a, 1, o, k, T) ((RD g n q M 5 o k (c, out, a, -1)).1, (stF 6 S (D.map trF ++ O)).1, (stF 6 S (D.map trF ++ O)).2, (RD g n q M 5 o k (c, out, a, -1)).2.2.1, 0, o, noS (stF 6 S (D.map trF ++ O)).1, T') ∧ (∀ i : Nat, (i : Int) ≤ o → T' i = T i) ∧ WC n (RD g n q M 5 o k (c, out, a, -1)).1 ∧ c.1 < (RD g n q M 5 o k (c, out, a, -1)).1.1)
  ∧ (¬ (RD g n q M 5 o k (c, out, a, -1)).2.2.2 = -1 → Rft g n q (c, S, O, a, 1, o, k, T) (RD g n q M 5 o k (c, out, a, -1)).2.2.2)
def LvO (g : Nat → Int) (n q l o k : Int) (S O : List Int) (T : Nat → Int) (s : PSs) (out : List (Int × Int)) (b : Int) (y : PPs) : Prop :=
  ∃ D S' O' T', y.2.1 = D ++ out ∧ Rch g n q s (y.1, S', O', y.2.2.1, 0, o, k, T') ∧ stF (l + 1) S' O' = (S, D.map trF ++ O) ∧ (∀ i : Nat, (i : Int) < o → T' i = T i) ∧ (3 ≤ l → (T' o.toNat = 0 ↔ T o.toNat = 0)) ∧ (l ≤ 2 → lvF (siF g n y.1) = 2 → ¬ T' o.toNat = 0) ∧ (∀ j, l ≤ j → j ≤ 4 → ¬ j = 2 → ¬ lvF (siF g n y.1) = j) ∧ WC n y.1 ∧ b < y.1.1
def LvR (g : Nat → Int) (n q : Int) (f : PPs → PPs) (l o k : Int) : Prop := ∀ (c : PCu) (out : List (Int × Int)) (a : Int) (S O : List Int) (T : Nat → Int), noS S = k → TopOK l S → (l ≤ 2 → T o.toNat = 0) → WC n c →
  ((f (c, out, a, -1)).2.2.2 = -1 → LvO g n q l o k S O T (c, S, O, a, 1, o, k, T) out c.1 (f (c, out, a, -1))) ∧ (¬ (f (c, out, a, -1)).2.2.2 = -1 → Rft g n q (c, S, O, a, 1, o, k, T) (f (c, out, a, -1)).2.2.2)
def LvS (g : Nat → Int) (n q : Int) (M : Nat) (l : Int) : Prop := ∀ (o k : Int), 0 ≤ o → o ≤ 8 → 0 ≤ k → k ≤ 8 → 7 * (8 - o) + (8 - k) + (5 - l) < (M : Int) → LvR g n q (RD g n q M l o k) l o k
theorem noS_nn : ∀ S, 0 ≤ noS S
  | [] => Int.le_refl 0
  | a :: S => by
    have := noS_nn S
    unfold noS
    split <;> omega
theorem Lv5 {g : Nat → Int} {n q : Int} {M : Nat} (h : PcS g n q M) : LvS g n q M 5 := by
  intro o k h1 h2 h3 h4 h5 c out a S O T h6 h7 h8 h9
  obtain ⟨p1, p2⟩ := h o k c out a S O T h1 h2 h3 h4 (by omega) h6 h9
  refine ⟨fun e => ?_, p2⟩
  obtain ⟨D, T', e1, e2, e3, e4, e5⟩ := p1 e
  have et : stF 6 S (D.map trF ++ O) = (S, D.map trF ++ O) := stF_top h7 (by decide)
  rw [et] at e2
  rw [h6] at e2
  exact ⟨D, S, D.map trF ++ O, T', e1, e2, et, fun i hi => e3 i (by omega), fun _ => by rw [e3 o.toNat (by omega)], fun hl => by omega, fun j h1 h2 => by omega, e4, e5⟩
theorem Pc_step {g : Nat → Int} {n q : Int} {M : Nat} (hP : PcS g n q M) (hL : LvS g n q M 0) : PcS g n q (M + 1) := by
  intro o k c out a S O T h1 h2 h3 h4 h5 h6 h9
  have wn := WC.nx (g := g) h9
  have w0 := h9
  obtain ⟨z1, z2, z3, z4, z5, z6, z7⟩ := w0
  have nn := noS_nn S
  by_cases q1 : siF g n c = 33 ∧ k < 8
  · have eR : RD g n q (M + 1) 5 o k (c, out, a, -1) = emP 33 0 (RD g n q M 5 o (k + 1) (stC g n c, out, a, -1)) := by
      show (if (5 : Int) ≤ 5 then (if siF g n c = 33 ∧ k < 8 then _ else _) else _) = _
      rw [if_pos (by decide), if_pos q1]
      rfl
    have hs3 : c.2.1 = 3 := siF_s (g := g) (n := n) (by omega)
    have ht : ¬ tkF c = 0 := by rw [tk_0 h9]; omega
    have eS : syS g n q (c, S, O, a, 1, o, k, T) = .inl (stC g n c, -10 :: S, O, a, 1, o, k + 1, T) := by
      show sy1 g n q c S O a 1 o k T = _
      unfold sy1
      rw [if_neg (by omega), if_pos (by decide), if_pos q1]
      have : noS (-10 :: S) = k + 1 := by
        show noS S + (if (-10 : Int) = -10 then 1 else 0) = _
        rw [if_pos rfl]; omega
      rw [this]
    have hk : noS (-10 :: S) = k + 1 := by
      show noS S + (if (-10 : Int) = -10 then 1 else 0) = _
      rw [if_pos rfl]; omega
    obtain ⟨p1, p2⟩ := hP o (k + 1) (stC g n c) out a (-10 :: S) O T h1 h2 (by omega) (by omega) (by omega) hk wn.1
    rw [eR]
    refine ⟨fun e => ?_, fun e => Rft.of (Rch.st eS) (p2 e)⟩
    obtain ⟨D, T', e1, e2, e3, e4, e5⟩ := p1 e
    have et : stF 6 (-10 :: S) (D.map trF ++ O) = stF 6 S (((33, 0) :: D).map trF ++ O) := by
      show (if ¬ (-10 : Int) = -11 ∧ 6 ≤ rkF (-10) then stF 6 S (-10 :: (D.map trF ++ O)) else _) = _
      rw [if_pos (by decide)]
      rfl
    rw [et] at e2
    refine ⟨(33, 0) :: D, T', ?_, (Rch.st eS).tr e2, e3, e4, ?_⟩
    · show (33, 0) :: (RD g n q M 5 o (k + 1) (stC g n c, out, a, -1)).2.1 = _
      rw [e1]; rfl
    · show c.1 < (RD g n q M 5 o (k + 1) (stC g n c, out, a, -1)).1.1
      have := wn.2.1
      omega
  · by_cases q2 : siF g n c = 40 ∧ o < 8
    · have eR : RD g n q (M + 1) 5 o k (c, out, a, -1) = clP g n (RD g n q M 0 (o + 1) k (stC g n c, out, a, -1)) := by
        show (if (5 : Int) ≤ 5 then (if siF g n c = 33 ∧ k < 8 then _ else if siF g n c = 40 ∧ o < 8 then _ else _) else _) = _
        rw [if_pos (by decide), if_neg q1, if_pos q2]
        rfl
      have hs3 : c.2.1 = 3 := siF_s (g := g) (n := n) (by omega)
      have ht : ¬ tkF c = 0 := by rw [tk_0 h9]; omega
      have hk : noS (-11 :: S) = k := by
        show noS S + (if (-11 : Int) = -10 then 1 else 0) = _
        rw [if_neg (by decide)]; omega
      have eS : syS g n q (c, S, O, a, 1, o, k, T) = .inl (stC g n c, -11 :: S, O, a, 1, o + 1, k, upF T (o + 1).toNat 0) := by
        show sy1 g n q c S O a 1 o k T = _
        unfold sy1
        rw [if_neg (by omega), if_pos (by decide), if_neg q1, if_pos q2, hk]
      obtain ⟨p1, p2⟩ := hL (o + 1) k (by omega) (by omega) h3 h4 (by omega) (stC g n c) out a (-11 :: S) O (upF T (o + 1).toNat 0) hk (fun x hx => Or.inl (by simpa using hx.symm)) (fun _ => by show (if _ then _ else _) = _; rw [if_pos rfl]) wn.1
      rw [eR]
      generalize RD g n q M 0 (o + 1) k (stC g n c, out, a, -1) = y at p1 p2
      by_cases f : y.2.2.2 = -1
      · obtain ⟨D, S', O', T', e1, e2, e3, e4, -, e6, e7, e8, e9⟩ := p1 f
        have rc := (Rch.st eS).tr e2
        have wy := WC.nx (g := g) e8
        have er : stF 0 S' O' = (-11 :: S, D.map trF ++ O) := by
          rw [stF_eq (b := 1) (by decide) e3]
          show (if ¬ (-11 : Int) = -11 ∧ 0 ≤ rkF (-11) then _ else _) = _
          rw [if_neg (by decide)]
        by_cases s : siF g n y.1 = 41
        · have eC : clP g n y = stP g n y := by
            unfold clP
            rw [if_neg (by omega), if_pos s]
          rw [eC]
          have hy3 : y.1.2.1 = 3 := siF_s (g := g) (n := n) (by omega)
          have hty : ¬ tkF y.1 = 0 := by rw [tk_0 e8]; omega
          have eS2 : syS g n q (y.1, S', O', y.2.2.1, 0, o + 1, k, T') = .inl (stC g n y.1, (stF 6 S (D.map trF ++ O)).1, (stF 6 S (D.map trF ++ O)).2, y.2.2.1, 0, o, noS (stF 6 S (D.map trF ++ O)).1, T') := by
            show sy1 g n q y.1 S' O' y.2.2.1 0 (o + 1) k T' = _
            unfold sy1
            rw [if_neg (by omega), if_neg (by decide), if_pos ⟨s, by omega⟩, er, show o + 1 - 1 = o by omega]
            rfl
          refine ⟨fun _ => ⟨D, T', e1, rc.tr (Rch.st eS2), fun i hi => ?_, wy.1, ?_⟩, fun e => absurd f e⟩
          · rw [e4 i (by omega)]
            show (if _ then _ else _) = _
            rw [if_neg (by omega)]
          · show c.1 < (stC g n y.1).1
            have := wy.2.1
            have := wn.2.1
            omega
        · have eC : clP g n y = ftP y := by
            unfold clP
            rw [if_neg (by omega), if_neg s]
          rw [eC]
          have hf : (ftP y).2.2.2 = y.1.1 := rfl
          rw [hf]
          refine ⟨fun e => by have := e8.1; omega, fun _ => Rft.of rc ?_⟩
          by_cases ty : tkF y.1 = 0
          · have eS2 : syS g n q (y.1, S', O', y.2.2.1, 0, o + 1, k, T') = .inr (y.1.1, [], 0) := by
              show sy1 g n q y.1 S' O' y.2.2.1 0 (o + 1) k T' = _
              unfold sy1
              rw [if_pos ⟨rfl, ty⟩, if_neg (by omega)]
            exact Rft.dn eS2
          · have hz : sgF (siF g n y.1) = 0 ∨ (rkF (sgF (siF g n y.1)) = 3 ∧ ¬ T' (o + 1).toNat = 0) := by
              by_cases hs : sgF (siF g n y.1) = 0
              · exact Or.inl hs
              · have hl := sg_lv hs
                by_cases h2 : lvF (siF g n y.1) = 2
                · exact Or.inr ⟨(lv_s h2 (by decide)).2.1, e6 (by decide) h2⟩
                · exact absurd rfl (e7 _ hl.1 hl.2 h2)
            have eS2 : syS g n q (y.1, S', O', y.2.2.1, 0, o + 1, k, T') = .inr (y.1.1, [], 0) := by
              show sy1 g n q y.1 S' O' y.2.2.1 0 (o + 1) k T' = _
              unfold sy1
              rw [if_neg (by omega), if_neg (by decide), if_neg (by omega), if_pos hz]
            exact Rft.dn eS2
      · have eC : clP g n y = y := by
          unfold clP
          rw [if_pos f]
        rw [eC]
        exact ⟨fun e => absurd e f, fun e => Rft.of (Rch.st eS) (p2 e)⟩
    · have eR : RD g n q (M + 1) 5 o k (c, out, a, -1) = opP g n q (c, out, a, -1) := by
        show (if (5 : Int) ≤ 5 then (if siF g n c = 33 ∧ k < 8 then _ else if siF g n c = 40 ∧ o < 8 then _ else _) else _) = _
        rw [if_pos (by decide), if_neg q1, if_neg q2]
      rw [eR]
      by_cases t2 : tkF c = 2
      · have u : c.2.1 = 2 ∧ ¬ c.2.2.2 = 1 ∧ c.2.2.1 - c.1 ≤ 4 := by
          unfold tkF at t2
          (repeat' split at t2) <;> omega
        have eO : opP g n q (c, out, a, -1) = (stC g n c, (0, numF g c.1.toNat (c.2.2.1 - c.1).toNat) :: out, a + 1, -1) := by
          unfold opP
          rw [if_neg u.2.1, if_pos ⟨u.1, u.2.2⟩]
        have eV : opV g q c = trF (0, numF g c.1.toNat (c.2.2.1 - c.1).toNat) := by
          unfold opV
          rw [if_pos t2]
          rfl
        have eS : syS g n q (c, S, O, a, 1, o, k, T) = .inl (stC g n c, (stF 6 S (trF (0, numF g c.1.toNat (c.2.2.1 - c.1).toNat) :: O)).1, (stF 6 S (trF (0, numF g c.1.toNat (c.2.2.1 - c.1).toNat) :: O)).2, a + 1, 0, o, noS (stF 6 S (trF (0, numF g c.1.toNat (c.2.2.1 - c.1).toNat) :: O)).1, T) := by
          show sy1 g n q c S O a 1 o k T = _
          unfold sy1
          rw [if_neg (by omega), if_pos (by decide), if_neg q1, if_neg q2, if_pos (Or.inl t2), eV]
        rw [eO]
        exact ⟨fun _ => ⟨[(0, numF g c.1.toNat (c.2.2.1 - c.1).toNat)], T, rfl, Rch.st eS, fun _ _ => rfl, wn.1, wn.2.2 (by omega)⟩, fun e => absurd rfl e⟩
      · by_cases t1 : tkF c = 1 ∧ c.2.2.1 - c.1 = 1 ∧ 0 ≤ nmF q (g c.1.toNat)
        · have u : c.2.1 = 1 ∧ ¬ c.2.2.2 = 1 := by
            have t1 := t1.1
            unfold tkF at t1
            (repeat' split at t1) <;> omega
          have eO : opP g n q (c, out, a, -1) = (stC g n c, (1, nmF q (g c.1.toNat)) :: out, a + 1, -1) := by
            unfold opP
            have hv : ¬ nmF q (g c.1.toNat) = -1 := by have := t1.2.2; omega
            rw [if_neg u.2, if_neg (fun e => by have e1 : c.2.1 = 2 := e.1; omega), if_pos ⟨u.1, t1.2.1, hv⟩]
          have eV : opV g q c = trF (1, nmF q (g c.1.toNat)) := by
            unfold opV
            rw [if_neg t2]
            rfl
          have eS : syS g n q (c, S, O, a, 1, o, k, T) = .inl (stC g n c, (stF 6 S (trF (1, nmF q (g c.1.toNat)) :: O)).1, (stF 6 S (trF (1, nmF q (g c.1.toNat)) :: O)).2, a + 1, 0, o, noS (stF 6 S (trF (1, nmF q (g c.1.toNat)) :: O)).1, T) := by
            show sy1 g n q c S O a 1 o k T = _
            unfold sy1
            rw [if_neg (by omega), if_pos (by decide), if_neg q1, if_neg q2, if_pos (Or.inr t1), eV]
          rw [eO]
          exact ⟨fun _ => ⟨[(1, nmF q (g c.1.toNat))], T, rfl, Rch.st eS, fun _ _ => rfl, wn.1, wn.2.2 (by omega)⟩, fun e => absurd rfl e⟩
        · have hn : -1 ≤ nmF q (g c.1.toNat) := by
            unfold nmF
            (repeat' split) <;> omega
          have eO : opP g n q (c, out, a, -1) = (c, out, a, c.1) := by
            unfold opP
            by_cases l1 : c.2.2.2 = 1
            · rw [if_pos l1]; rfl
            · rw [if_neg l1, if_neg ?_, if_neg ?_]
              · rfl
              · intro e
                apply t1
                have e3 : ¬ nmF q (g c.1.toNat) = -1 := e.2.2
                refine ⟨?_, e.2.1, by omega⟩
                unfold tkF
                rw [if_pos e.1, if_neg l1]
              · intro e
                apply t2
                have e1 := e.1
                have e2 := e.2
                simp only at e1 e2
                unfold tkF
                rw [if_neg (by omega), if_pos e1, if_neg (by omega)]
          have eS : syS g n q (c, S, O, a, 1, o, k, T) = .inr (c.1, [], 0) := by
            show sy1 g n q c S O a 1 o k T = _
            unfold sy1
            rw [if_neg (by omega), if_pos (by decide), if_neg q1, if_neg q2, if_neg (fun e => e.elim t2 t1)]
          rw [eO]
          exact ⟨fun e => by have e1 : c.1 = -1 := e; omega, fun _ => Rft.dn eS⟩
theorem LP_f {g : Nat → Int} {n l : Int} {f : PPs → PPs} {x : PPs} (h : ¬ x.2.2.2 = -1) : ∀ i, LPx g n f l i x = x
  | 0 => rfl
  | i + 1 => by
    show (if x.2.2.2 = -1 ∧ _ then _ else x) = x
    rw [if_neg (fun e => h e.1)]
theorem LP_lem {g : Nat → Int} {n q l o k : Int} {f : PPs → PPs} {S : List Int} {T : Nat → Int} {s0 : PSs} {b : Int} (hl : 0 ≤ l ∧ l ≤ 4) (ho : 0 ≤ o) (hf : LvR g n q f (l + 1) o k) (hS : noS S = k) (hT : TopOK l S) : ∀ (i : Nat) (c : PCu) (out : List (Int × Int)) (a : Int) (S' O' X : List Int) (T' : Nat → Int), Rch g n q s0 (c, S', O', a, 0, o, k, T') → stF (l + 1) S' O' = (S, X) → (∀ i : Nat, (i : Int) < o → T' i = T i) → (3 ≤ l → (T' o.toNat = 0 ↔ T o.toNat = 0)) → (∀ j, l + 1 ≤ j → j ≤ 4 → ¬ j = 2 → ¬ lvF (siF g n c) = j) → (l ≤ 1 → lvF (siF g n c) = 2 → ¬ T' o.toNat = 0) → (l = 2 → (i = 0 ∧ ¬ T' o.toNat = 0) ∨ (i = 1 ∧ T' o.toNat = 0)) → (¬ l = 2 → n - c.1 < (i : Int)) → WC n c → b < c.1 →
    ((LPx g n f l i (c, out, a, -1)).2.2.2 = -1 → LvO g n q l o k S X T s0 out b (LPx g n f l i (c, out, a, -1))) ∧ (¬ (LPx g n f l i (c, out, a, -1)).2.2.2 = -1 → Rft g n q s0 (LPx g n f l i (c, out, a, -1)).2.2.2)
  | 0, c, out, a, S', O', X, T', rch, st, tl, t3, tE, t2, t2', bd, w, hb => by
    refine ⟨fun _ => ⟨[], S', O', T', rfl, rch, st, tl, t3, fun h2 e => ?_, fun j j1 j2 j3 e => ?_, w, hb⟩, fun e => absurd rfl e⟩
    · by_cases u : l = 2
      · rcases t2' u with v | v
        · exact v.2
        · exact absurd v.1 (by decide)
      · exact t2 (by omega) e
    · by_cases u : j = l
      · have := bd (by omega)
        have := w.2.1
        have := w.2.2.1
        simp only [Int.ofNat_zero] at *
        omega
      · exact tE j (by omega) j2 j3 e
  | i + 1, c, out, a, S', O', X, T', rch, st, tl, t3, tE, t2, t2', bd, w, hb => by
    by_cases u : lvF (siF g n c) = l
    · have eL : LPx g n f l (i + 1) (c, out, a, -1) = LPx g n f l i (emP (siF g n c) 0 (f (stC g n c, out, a, -1))) := by
        show (if (-1 : Int) = -1 ∧ lvF (siF g n c) = l then _ else _) = _
        rw [if_pos ⟨rfl, u⟩]
        rfl
      rw [eL]
      obtain ⟨v1, v2, v3, v4, v5, v6, v7, v8⟩ := lv_s u hl.1
      have hs3 : c.2.1 = 3 := siF_s (g := g) (n := n) v7
      have ht : ¬ tkF c = 0 := by rw [tk_0 w]; omega
      have wn := WC.nx (g := g) w
      have hz : ¬ (sgF (siF g n c) = 0 ∨ (rkF (sgF (siF g n c)) = 3 ∧ ¬ T' o.toNat = 0)) := by
        intro e
        rcases e with e | e
        · exact v1 e
        · rcases t2' (by omega) with x | x
          · exact absurd x.1 (by omega)
          · exact e.2 x.2
      obtain ⟨V, hV⟩ : ∃ V : Int, V = (if rkF (sgF (siF g n c)) = 3 ∨ (3 < rkF (sgF (siF g n c)) ∧ ¬ T' o.toNat = 0) then 1 else 0) := ⟨_, rfl⟩
      have eS : syS g n q (c, S', O', a, 0, o, k, T') = .inl (stC g n c, sgF (siF g n c) :: S, X, a, 1, o, k, upF T' o.toNat V) := by
        show sy1 g n q c S' O' a 0 o k T' = _
        unfold sy1
        rw [if_neg (by omega), if_neg (by decide), if_neg (by omega), if_neg hz, ← hV, v2, st]
      have eT : upF T' o.toNat V o.toNat = V := by
        show (if _ then _ else _) = _
        rw [if_pos rfl]
      have eT2 : ∀ j : Nat, (j : Int) < o → upF T' o.toNat V j = T' j := by
        intro j hj
        show (if _ then _ else _) = _
        rw [if_neg (by omega)]
      have hk : noS (sgF (siF g n c) :: S) = k := by
        show noS S + (if _ then _ else _) = _
        rw [if_neg v4]
        omega
      have hTop : TopOK (l + 1) (sgF (siF g n c) :: S) := by
        intro x hx
        have hx2 : sgF (siF g n c) = x := by simpa using hx
        rw [← hx2]
        exact Or.inr (by omega)
      obtain ⟨p1, p2⟩ := hf (stC g n c) out a (sgF (siF g n c) :: S) X (upF T' o.toNat V) hk hTop (fun h => by rw [eT, hV, if_neg (by omega)]) wn.1
      generalize f (stC g n c, out, a, -1) = y at p1 p2
      by_cases fy : y.2.2.2 = -1
      · obtain ⟨D, S1, O1, T1, e1, e2, e3, e4, e5, e6, e7, e8, e9⟩ := p1 fy
        have ey : emP (siF g n c) 0 y = (y.1, (siF g n c, 0) :: y.2.1, y.2.2.1, -1) := by
          unfold emP
          rw [fy]
        rw [ey, e1]
        have st1 : stF (l + 1) S1 O1 = (S, trF (siF g n c, 0) :: (D.map trF ++ X)) := by
          rw [stF_eq (by omega) e3]
          show (if ¬ sgF (siF g n c) = -11 ∧ l + 1 ≤ rkF (sgF (siF g n c)) then stF (l + 1) S (sgF (siF g n c) :: (D.map trF ++ X)) else _) = _
          rw [if_pos ⟨v3, by omega⟩, stF_top hT (by omega), v5]
        have ih := LP_lem (b := b) hl ho hf hS hT i y.1 ((siF g n c, 0) :: (D ++ out)) y.2.2.1 S1 O1 (trF (siF g n c, 0) :: (D.map trF ++ X)) T1 (rch.tr ((Rch.st eS).tr e2)) st1 (fun j hj => by rw [e4 j hj, eT2 j hj, tl j hj]) (fun h => by
            rw [e5 (by omega), eT, ← t3 h, hV]
            by_cases x : T' o.toNat = 0
            · rw [if_neg (by omega)]; exact ⟨fun _ => x, fun _ => rfl⟩
            · rw [if_pos (Or.inr ⟨by omega, x⟩)]; exact ⟨fun e => absurd e (by decide), fun e => absurd e x⟩) (fun j j1 j2 j3 => e7 j j1 j2 j3) (fun h e => e6 (by omega) e) (fun h => by
            rcases t2' h with x | x
            · exact absurd x.1 (by omega)
            · refine Or.inl ⟨by omega, fun e => ?_⟩
              have e0 := (e5 (by omega)).mp e
              rw [eT, hV, if_pos (Or.inl (by omega))] at e0
              exact absurd e0 (by decide)) (fun h => by
            have := bd h
            have := wn.2.1
            omega) e8 (by have := wn.2.1; omega)
        refine ⟨fun e => ?_, ih.2⟩
        obtain ⟨D2, S2, O2, T2, g1, g2, g3, g4⟩ := ih.1 e
        refine ⟨D2 ++ (siF g n c, 0) :: D, S2, O2, T2, ?_, g2, ?_, g4⟩
        · rw [g1]; simp
        · rw [g3]; simp
      · have fe : ¬ (emP (siF g n c) 0 y).2.2.2 = -1 := fy
        rw [LP_f fe]
        exact ⟨fun e => absurd e fe, fun _ => Rft.of (rch.tr (Rch.st eS)) (p2 fy)⟩
    · have eL : LPx g n f l (i + 1) (c, out, a, -1) = (c, out, a, -1) := by
        show (if (-1 : Int) = -1 ∧ lvF (siF g n c) = l then _ else _) = _
        rw [if_neg (fun e => u e.2)]
      rw [eL]
      refine ⟨fun _ => ⟨[], S', O', T', rfl, rch, st, tl, t3, fun h2 e => ?_, fun j j1 j2 j3 e => ?_, w, hb⟩, fun e => absurd rfl e⟩
      · by_cases v : l = 2
        · exact absurd (e.trans v.symm) u
        · exact t2 (by omega) e
      · by_cases v : j = l
        · exact u (e.trans v)
        · exact tE j (by omega) j2 j3 e
theorem Lv_step {g : Nat → Int} {n q : Int} {M : Nat} {l : Int} (hn : n ≤ 96) (hl : 0 ≤ l ∧ l ≤ 4) (h : LvS g n q M (l + 1)) : LvS g n q (M + 1) l := by
  intro o k h1 h2 h3 h4 h5 c out a S O T h6 h7 h8 h9
  have hf := h o k h1 h2 h3 h4 (by omega)
  have eR : RD g n q (M + 1) l o k (c, out, a, -1) = LPx g n (RD g n q M (l + 1) o k) l (if l = 2 then 1 else 96) (RD g n q M (l + 1) o k (c, out, a, -1)) := by
    show (if (5 : Int) ≤ l then _ else _) = _
    rw [if_neg (by omega)]
  rw [eR]
  obtain ⟨p1, p2⟩ := hf c out a S O T h6 (fun x hx => (h7 x hx).imp id (fun e => by omega)) (fun e => h8 (by omega)) h9
  generalize ef : RD g n q M (l + 1) o k = f at hf p1 p2
  generalize ey : f (c, out, a, -1) = y at p1 p2
  by_cases fy : y.2.2.2 = -1
  · obtain ⟨D, S1, O1, T1, e1, e2, e3, e4, e5, e6, e7, e8, e9⟩ := p1 fy
    have ey2 : y = (y.1, D ++ out, y.2.2.1, -1) := by
      rw [← e1, ← fy]
    have z1 := h9.1
    have st1 : stF (l + 1) S1 O1 = (S, D.map trF ++ O) := by
      rw [stF_eq (by omega) e3, stF_top h7 (by omega)]
    have ih := LP_lem (b := c.1) hl h1 hf h6 h7 (T := T) (if l = 2 then 1 else 96) y.1 (D ++ out) y.2.2.1 S1 O1 (D.map trF ++ O) T1 e2 st1 e4 (fun e => e5 (by omega)) e7 (fun e => e6 (by omega)) (fun e => by
        rw [if_pos e]
        refine Or.inr ⟨rfl, ?_⟩
        rw [e5 (by omega)]
        exact h8 (by omega)) (fun e => by rw [if_neg e]; show n - y.1.1 < 96; omega) e8 e9
    rw [ey2]
    refine ⟨fun e => ?_, ih.2⟩
    obtain ⟨D2, S2, O2, T2, g1, g2, g3, g4⟩ := ih.1 e
    refine ⟨D2 ++ D, S2, O2, T2, ?_, g2, ?_, g4⟩
    · rw [g1]; simp
    · rw [g3]; simp
  · rw [LP_f fy]
    exact ⟨fun e => absurd e fy, p2⟩
theorem rd_main {g : Nat → Int} {n q : Int} (hn : n ≤ 96) : ∀ M : Nat, PcS g n q M ∧ ∀ l : Int, 0 ≤ l → l ≤ 5 → LvS g n q M l
  | 0 => ⟨fun o k c out a S O T h1 h2 h3 h4 h5 => by exfalso; omega, fun l l1 l2 o k h1 h2 h3 h4 h5 => by exfalso; omega⟩
  | M + 1 => by
    obtain ⟨hP, hL⟩ := rd_main hn M
    have hP1 := Pc_step hP (hL 0 (by decide) (by decide))
    refine ⟨hP1, fun l l1 l2 => ?_⟩
    by_cases e : l = 5
    · subst e
      exact Lv5 hP1
    · exact Lv_step hn ⟨l1, by omega⟩ (hL (l + 1) (by omega) (by omega))
theorem rd_sy {g : Nat → Int} {n q : Int} (hn : n ≤ 96) {c : PCu} (w : WC n c) {T : Nat → Int} (hT : T 0 = 0) {M : Nat} (hM : 70 ≤ M) : ((RD g n q M 0 0 0 (c, [], 0, -1)).2.2.2 = -1 → (RD g n q M 0 0 0 (c, [], 0, -1)).1.2.1 = 0 → ∃ k, syr g n q k (c, [], [], 0, 1, 0, 0, T) = some (-1, (RD g n q M 0 0 0 (c, [], 0, -1)).2.1.map trF, (RD g n q M 0 0 0 (c, [], 0, -1)).2.2.1)) ∧ ((RD g n q M 0 0 0 (c, [], 0, -1)).2.2.2 = -1 → ¬ (RD g n q M 0 0 0 (c, [], 0, -1)).1.2.1 = 0 → Rft g n q (c, [], [], 0, 1, 0, 0, T) (RD g n q M 0 0 0 (c, [], 0, -1)).1.1) ∧ (¬ (RD g n q M 0 0 0 (c, [], 0, -1)).2.2.2 = -1 → Rft g n q (c, [], [], 0, 1, 0, 0, T) (RD g n q M 0 0 0 (c, [], 0, -1)).2.2.2) := by
  obtain ⟨p1, p2⟩ := (rd_main (g := g) (q := q) hn M).2 0 (by decide) (by decide) 0 0 (by decide) (by decide) (by decide) (by decide) (by omega) c [] 0 [] [] T rfl (fun x hx => by cases hx) (fun _ => hT) w
  generalize RD g n q M 0 0 0 (c, [], 0, -1) = y at p1 p2
  have key : y.2.2.2 = -1 → ∃ S' O' T', Rch g n q (c, [], [], 0, 1, 0, 0, T) (y.1, S', O', y.2.2.1, 0, 0, 0, T') ∧ stF 1 S' O' = ([], y.2.1.map trF) ∧ (lvF (siF g n y.1) = 2 → ¬ T' 0 = 0) ∧ (∀ j, 0 ≤ j → j ≤ 4 → ¬ j = 2 → ¬ lvF (siF g n y.1) = j) ∧ WC n y.1 := by
    intro e
    obtain ⟨D, S1, O1, T1, e1, e2, e3, e4, e5, e6, e7, e8, e9⟩ := p1 e
    refine ⟨S1, O1, T1, e2, ?_, fun h => e6 (by decide) h, e7, e8⟩
    rw [e1]
    simpa using e3
  refine ⟨fun e1 e2 => ?_, fun e1 e2 => ?_, p2⟩
  · obtain ⟨S', O', T', r, s, -, -, w2⟩ := key e1
    have eS : syS g n q (y.1, S', O', y.2.2.1, 0, 0, 0, T') = .inr (-1, y.2.1.map trF, y.2.2.1) := by
      show sy1 g n q y.1 S' O' y.2.2.1 0 0 0 T' = _
      unfold sy1
      have e0 : stF 0 S' O' = ([], y.2.1.map trF) := by
        rw [stF_eq (b := 1) (by decide) s]
        rfl
      rw [if_pos ⟨rfl, (tk_0 w2).mpr e2⟩, if_pos rfl, e0]
    exact r 1 _ (syr_dn eS)
  · obtain ⟨S', O', T', r, s, t2, tE, w2⟩ := key e1
    have hz : sgF (siF g n y.1) = 0 ∨ (rkF (sgF (siF g n y.1)) = 3 ∧ ¬ T' 0 = 0) := by
      by_cases hs : sgF (siF g n y.1) = 0
      · exact Or.inl hs
      · have hl := sg_lv hs
        by_cases h2 : lvF (siF g n y.1) = 2
        · exact Or.inr ⟨(lv_s h2 (by decide)).2.1, t2 h2⟩
        · exact absurd rfl (tE _ hl.1 hl.2 h2)
    have eS : syS g n q (y.1, S', O', y.2.2.1, 0, 0, 0, T') = .inr (y.1.1, [], 0) := by
      show sy1 g n q y.1 S' O' y.2.2.1 0 0 0 T' = _
      unfold sy1
      have hz2 : sgF (siF g n y.1) = 0 ∨ (rkF (sgF (siF g n y.1)) = 3 ∧ ¬ T' (0 : Int).toNat = 0) := hz
      rw [if_neg (fun e => e2 ((tk_0 w2).mp e.2)), if_neg (by decide), if_neg (fun e => absurd e.2 (by decide)), if_pos hz2]
    exact Rft.of r (Rft.dn eS)
def wdF (j : Nat) (i : Int) : Int := if j = 3 then (if i = 0 then 100 else if i = 1 then 97 else if i = 2 then 114 else 107) else if j = 4 then (if i = 0 then 102 else 101) else (if i = 0 then 102 else if i = 1 then 105 else if i = 2 then 110 else 101)
def WDp (g : Nat → Int) (j : Nat) (s i : Int) : Prop := ∀ k : Int, 0 ≤ k → k < i → g (s + k).toNat = wdF j k
theorem WDp.sn {g : Nat → Int} {j : Nat} {s i : Int} (h : WDp g j s i) (e : g (s + i).toNat = wdF j i) : WDp g j s (i + 1) := by
  intro k h1 h2
  by_cases q : k = i
  · subst q; exact e
  · exact h k h1 (by omega)
def kyW (g : Nat → Int) (c : PCu) (j : Nat) (w : Int) : Prop := c.2.1 = 1 ∧ c.2.2.1 - c.1 = w ∧ WDp g j c.1 w
def KYp (g : Nat → Int) (c : PCu) (z : Int) : Prop := (z = 0 ∧ kyW g c 3 4) ∨ (z = 1 ∧ ¬ kyW g c 3 4 ∧ kyW g c 4 3) ∨ (z = 2 ∧ ¬ kyW g c 3 4 ∧ ¬ kyW g c 4 3 ∧ kyW g c 5 4) ∨ (z = -1 ∧ ¬ kyW g c 3 4 ∧ ¬ kyW g c 4 3 ∧ ¬ kyW g c 5 4)
