/-! ===== the game as functions: who lies where, the best laying, days, the picture ===== -/
def abF (x : Int) : Int := if 0 ≤ x then x else 0 - x
def hoF (P : Nat → Int) (p : Int) : Nat → Int
  | 0 => -1
  | k + 1 => if P k = p then (k : Int) else hoF P p k
def HF (P : Nat → Int) (n : Nat) : Nat → Int := fun q => hoF P q n
def InjP (P : Nat → Int) (n : Nat) : Prop := ∀ s s' : Nat, s < n → s' < n → P s = P s' → P s < 12 → s = s'
theorem hoF_r (P : Nat → Int) (p : Int) : ∀ n : Nat, -1 ≤ hoF P p n ∧ hoF P p n < n ∨ hoF P p n = -1
  | 0 => Or.inr rfl
  | n + 1 => by
    unfold hoF
    split
    · left; omega
    · rcases hoF_r P p n with h | h
      · left; omega
      · right; exact h
theorem hoF_b (P : Nat → Int) (p : Int) (n : Nat) : -1 ≤ hoF P p n ∧ hoF P p n ≤ (n : Int) - 1 := by
  rcases hoF_r P p n with h | h <;> omega
theorem hoF_at {P : Nat → Int} {p : Int} : ∀ {n : Nat}, ¬ hoF P p n = -1 → P (hoF P p n).toNat = p
  | 0, h => absurd rfl h
  | n + 1, h => by
    unfold hoF at h ⊢
    by_cases e : P n = p
    · rw [if_pos e]
      simpa using e
    · rw [if_neg e] at h ⊢
      exact hoF_at h
theorem hoF_no {P : Nat → Int} {p : Int} : ∀ {n : Nat}, hoF P p n = -1 → ∀ s, s < n → ¬ P s = p
  | 0, _, s, hs => by omega
  | n + 1, h, s, hs => by
    unfold hoF at h
    by_cases e : P n = p
    · rw [if_pos e] at h; omega
    · rw [if_neg e] at h
      by_cases q : s = n
      · subst q; exact e
      · exact hoF_no h s (by omega)
theorem hoF_none {P : Nat → Int} {p : Int} {n : Nat} (h : ∀ s, s < n → ¬ P s = p) : hoF P p n = -1 := by
  by_cases e : hoF P p n = -1
  · exact e
  · have b := hoF_b P p n
    exact absurd (hoF_at e) (h _ (by omega))
theorem hoF_congr {P Q : Nat → Int} {p : Int} : ∀ {n : Nat}, (∀ s, s < n → P s = Q s) → hoF P p n = hoF Q p n
  | 0, _ => rfl
  | n + 1, h => by
    unfold hoF
    rw [hoF_congr (fun s hs => h s (by omega)), h n (by omega)]
/-- two ways to tell where stones lie, apart from those that lie nowhere -/
theorem hoF_cong2 {P Q : Nat → Int} {p : Int} : ∀ {n : Nat}, (∀ s, s < n → (P s = p ↔ Q s = p)) → hoF P p n = hoF Q p n
  | 0, _ => rfl
  | n + 1, h => by
    unfold hoF
    rw [hoF_cong2 (fun s hs => h s (by omega))]
    by_cases e : P n = p
    · rw [if_pos e, if_pos ((h n (by omega)).mp e)]
    · rw [if_neg e, if_neg (fun q => e ((h n (by omega)).mpr q))]
theorem hoF_is {P : Nat → Int} {p : Int} {n s : Nat} (hi : InjP P n) (hs : s < n) (hp : P s = p) (h12 : p < 12) : hoF P p n = s := by
  by_cases e : hoF P p n = -1
  · exact absurd hp (hoF_no e s hs)
  · have b := hoF_b P p n
    have := hi s (hoF P p n).toNat hs (by omega) (by rw [hp, hoF_at e]) (by omega)
    omega
theorem InjP.up {P : Nat → Int} {n s : Nat} {p : Int} (hi : InjP P n) (h : p < 12 → ∀ q, q < n → P q = p → q = s) : InjP (upF P s p) n := by
  intro a b ha hb e hl
  unfold upF at e hl
  by_cases qa : a = s
  · rw [if_pos qa] at e hl
    by_cases qb : b = s
    · omega
    · rw [if_neg qb] at e
      have := h hl b hb e.symm
      omega
  · rw [if_neg qa] at e hl
    by_cases qb : b = s
    · rw [if_pos qb] at e
      have := h (by omega) a ha e
      omega
    · rw [if_neg qb] at e
      exact hi a b ha hb e hl
theorem InjP.congr {P Q : Nat → Int} {n : Nat} (hi : InjP P n) (h : ∀ s, s < n → P s = Q s) : InjP Q n := by
  intro a b ha hb e hl
  rw [← h a ha, ← h b hb] at e
  rw [← h a ha] at hl
  exact hi a b ha hb e hl
theorem InjP.le {P : Nat → Int} {n m : Nat} (hi : InjP P n) (h : m ≤ n) : InjP P m := fun a b ha hb e hl => hi a b (by omega) (by omega) e hl
/-- what is held, in step with where stones lie -/
def HC (H P : Nat → Int) (n : Nat) : Prop := (∀ q : Nat, q < 12 → H q = hoF P q n) ∧ InjP P n ∧ ∀ s, s < n → 0 ≤ P s
def mvH (H P : Nat → Int) (s : Nat) (p : Int) : Nat → Int := fun i => if p < 12 ∧ i = p.toNat then (s : Int) else if P s < 12 ∧ i = (P s).toNat then -1 else H i
theorem HC.mv {H P : Nat → Int} {n s : Nat} {p : Int} (h : HC H P n) (hs : s < n) (h0 : 0 ≤ p) (hp : p < 12 → H p.toNat = -1 ∨ H p.toNat = s) : HC (mvH H P s p) (upF P s p) n := by
  obtain ⟨h1, h2, h3⟩ := h
  have hq : p < 12 → ∀ q, q < n → P q = p → q = s := by
    intro hl q hqn e
    have e1 := h1 p.toNat (by omega)
    rw [show ((p.toNat : Nat) : Int) = p by omega, hoF_is h2 hqn e hl] at e1
    rcases hp hl with k | k <;> omega
  refine ⟨fun q hqq => ?_, h2.up hq, fun a ha => ?_⟩
  · unfold mvH
    by_cases c1 : p < 12 ∧ q = p.toNat
    · rw [if_pos c1]
      exact (hoF_is (h2.up hq) hs (by unfold upF; rw [if_pos rfl]; omega) (by omega)).symm
    · rw [if_neg c1]
      have e0 : ¬ p = (q : Int) := fun e => c1 ⟨by omega, by omega⟩
      by_cases c2 : P s < 12 ∧ q = (P s).toNat
      · rw [if_pos c2]
        refine (hoF_none (fun a ha e => ?_)).symm
        unfold upF at e
        by_cases qa : a = s
        · rw [if_pos qa] at e; exact e0 e
        · rw [if_neg qa] at e
          have := h3 s hs
          exact qa (h2 a s ha hs (by omega) (by omega))
      · rw [if_neg c2, h1 q hqq]
        refine hoF_cong2 (fun a ha => ?_)
        unfold upF
        by_cases qa : a = s
        · rw [if_pos qa, qa]
          have := h3 s hs
          constructor
          · intro e; exact absurd ⟨by omega, by omega⟩ c2
          · intro e; exact absurd e e0
        · rw [if_neg qa]
  · unfold upF
    split
    · exact h0
    · exact h3 a ha
theorem HC.H {H G P : Nat → Int} {n : Nat} (h : HC H P n) (e : ∀ i, i < 12 → G i = H i) : HC G P n := ⟨fun q hq => by rw [e q hq]; exact h.1 q hq, h.2⟩
theorem HC.at {H P : Nat → Int} {n : Nat} (h : HC H P n) {q : Nat} (hq : q < 12) (h0 : ¬ H q = -1) : P (H q).toNat = q := by
  rw [h.1 q hq] at h0 ⊢
  exact hoF_at h0
theorem HC.add {H P Q : Nat → Int} {n : Nat} (h : HC H P n) (hQ : ∀ s, s < n → Q s = P s) (hn : Q n = 12) : HC H Q (n + 1) := by
  refine ⟨fun q hq => ?_, fun a b ha hb e hl => ?_, fun s hs => ?_⟩
  · unfold hoF
    rw [if_neg (by omega), h.1 q hq]
    exact hoF_congr (fun s hs => (hQ s hs).symm)
  · by_cases qa : a = n
    · subst qa; omega
    · by_cases qb : b = n
      · subst qb; omega
      · rw [hQ a (by omega), hQ b (by omega)] at e
        rw [hQ a (by omega)] at hl
        exact h.2.1 a b (by omega) (by omega) e hl
  · by_cases q : s = n
    · subst q; omega
    · rw [hQ s (by omega)]; exact h.2.2 s (by omega)
/-! the best laying at a place -/
def lbF (O : Nat → Nat → Int) (P : Nat → Int) : Nat → Int × Int × Int
  | 0 => (-1, 0, 0)
  | k + 1 => if P (k / 2) = 12 ∧ ((lbF O P k).1 = -1 ∨ O (k / 2) (k % 2) < (lbF O P k).2.1) then (((k / 2 : Nat) : Int), O (k / 2) (k % 2), ((k % 2 : Nat) : Int)) else lbF O P k
theorem lbF_r (O : Nat → Nat → Int) (P : Nat → Int) : ∀ k : Nat, ((lbF O P k).1 = -1 ∨ (0 ≤ (lbF O P k).1 ∧ 2 * (lbF O P k).1 < k ∧ P (lbF O P k).1.toNat = 12)) ∧ 0 ≤ (lbF O P k).2.2 ∧ (lbF O P k).2.2 ≤ 1
  | 0 => ⟨Or.inl rfl, Int.le_refl 0, by show (0 : Int) ≤ 1; decide⟩
  | k + 1 => by
    have ih := lbF_r O P k
    unfold lbF
    split
    · rename_i h
      refine ⟨Or.inr ⟨by show (0 : Int) ≤ ((k / 2 : Nat) : Int); omega, by show 2 * ((k / 2 : Nat) : Int) < _; omega, h.1⟩, by show (0 : Int) ≤ ((k % 2 : Nat) : Int); omega, by show ((k % 2 : Nat) : Int) ≤ 1; omega⟩
    · refine ⟨?_, ih.2⟩
      rcases ih.1 with h | h
      · exact Or.inl h
      · exact Or.inr ⟨h.1, by omega, h.2.2⟩
theorem lbF_congr {O O' : Nat → Nat → Int} {P P' : Nat → Int} {n : Nat} (hO : ∀ s u : Nat, s < n → u < 2 → O s u = O' s u) (hP : ∀ s, s < n → P s = P' s) : ∀ k : Nat, k ≤ 2 * n → lbF O P k = lbF O' P' k
  | 0, _ => rfl
  | k + 1, h => by
    unfold lbF
    rw [lbF_congr hO hP k (by omega), hO (k / 2) (k % 2) (by omega) (by omega), hP (k / 2) (by omega)]
def lb1 (O : Nat → Nat → Int) (P : Nat → Int) (k : Nat) (which least way : Int) : Prop := which = (lbF O P k).1 ∧ least = (lbF O P k).2.1 ∧ way = (lbF O P k).2.2
theorem lb1.n {O : Nat → Nat → Int} {P : Nat → Int} {k : Nat} {which least way : Int} (h : lb1 O P k which least way) (e : ¬ (P (k / 2) = 12 ∧ (which = -1 ∨ O (k / 2) (k % 2) < least))) : lb1 O P (k + 1) which least way := by
  obtain ⟨h1, h2, h3⟩ := h
  rw [h1, h2] at e
  unfold lb1 lbF
  rw [if_neg e]
  exact ⟨h1, h2, h3⟩
theorem lb1.y {O : Nat → Nat → Int} {P : Nat → Int} {k : Nat} {which least way w2 l2 y2 : Int} (h : lb1 O P k which least way) (e : P (k / 2) = 12 ∧ (which = -1 ∨ O (k / 2) (k % 2) < least)) (h1 : w2 = ((k / 2 : Nat) : Int)) (h2 : l2 = O (k / 2) (k % 2)) (h3 : y2 = ((k % 2 : Nat) : Int)) : lb1 O P (k + 1) w2 l2 y2 := by
  obtain ⟨g1, g2, g3⟩ := h
  rw [g1, g2] at e
  unfold lb1 lbF
  rw [if_pos e]
  exact ⟨h1, h2, h3⟩
/-! days -/
def feF (H : Nat → Int) (r : Int) : Int := if H (r * 3).toNat = -1 then r * 3 else if H (r * 3 + 1).toNat = -1 then r * 3 + 1 else if H (r * 3 + 2).toNat = -1 then r * 3 + 2 else -1
theorem feF_e {H : Nat → Int} {r z : Int} (h : (r * 3 ≤ z ∧ z < r * 3 + 3 ∧ H z.toNat = -1 ∧ ∀ q : Int, r * 3 ≤ q → q < z → ¬ H q.toNat = -1) ∨ (z = -1 ∧ ∀ q : Int, r * 3 ≤ q → q < r * 3 + 3 → ¬ H q.toNat = -1)) : z = feF H r := by
  unfold feF
  rcases h with ⟨h1, h2, h3, h4⟩ | ⟨h1, h2⟩
  · have : z = r * 3 ∨ z = r * 3 + 1 ∨ z = r * 3 + 2 := by omega
    rcases this with e | e | e
    · subst e; rw [if_pos h3]
    · subst e; rw [if_neg (h4 _ (by omega) (by omega)), if_pos h3]
    · subst e; rw [if_neg (h4 _ (by omega) (by omega)), if_neg (h4 _ (by omega) (by omega)), if_pos h3]
  · rw [if_neg (h2 _ (by omega) (by omega)), if_neg (h2 _ (by omega) (by omega)), if_neg (h2 _ (by omega) (by omega)), h1]
theorem feF_r {H : Nat → Int} {r : Int} (hr : 0 ≤ r ∧ r ≤ 3) : feF H r = -1 ∨ (0 ≤ feF H r ∧ feF H r < 12 ∧ H (feF H r).toNat = -1) := by
  unfold feF
  split
  · right; exact ⟨by omega, by omega, by assumption⟩
  · split
    · right; exact ⟨by omega, by omega, by assumption⟩
    · split
      · right; exact ⟨by omega, by omega, by assumption⟩
      · left; rfl
theorem feF_congr {H H' : Nat → Int} {r : Int} (hr : 0 ≤ r ∧ r ≤ 3) (h : ∀ q, q < 12 → H q = H' q) : feF H r = feF H' r := by
  unfold feF
  rw [h _ (by omega), h _ (by omega), h _ (by omega)]
abbrev GPU : Type := (Nat → Int) × (Nat → Int)
def lyF (n : Nat) (O : Nat → Nat → Nat → Int) (r : Int) (x : GPU) : GPU :=
  if feF (HF x.1 n) r = -1 then x else if (lbF (fun s u => O s (feF (HF x.1 n) r).toNat u) x.1 (2 * n)).1 = -1 then x else (upF x.1 (lbF (fun s u => O s (feF (HF x.1 n) r).toNat u) x.1 (2 * n)).1.toNat (feF (HF x.1 n) r), upF x.2 (lbF (fun s u => O s (feF (HF x.1 n) r).toNat u) x.1 (2 * n)).1.toNat (lbF (fun s u => O s (feF (HF x.1 n) r).toNat u) x.1 (2 * n)).2.2)
def tuF (n : Nat) (p : Int) (x : GPU) : GPU := if hoF x.1 p n = -1 then x else (x.1, upF x.2 (hoF x.1 p n).toNat (1 - x.2 (hoF x.1 p n).toNat))
def dyF (n : Nat) (O : Nat → Nat → Nat → Int) (w z : Int) (x : GPU) : GPU := if drF (znF (znF z)) % 100 < w then tuF n (drF (znF (znF (znF z))) % 12) (lyF n O (drF (znF z) % 4) x) else lyF n O (drF (znF z) % 4) x
def dysF (n : Nat) (O : Nat → Nat → Nat → Int) (w z : Int) : Nat → GPU → GPU
  | 0, x => x
  | k + 1, x => dyF n O w (zdsF k z w) (dysF n O w z k x)
def Agr (n : Nat) (x y : GPU) : Prop := ∀ s, s < n → x.1 s = y.1 s ∧ x.2 s = y.2 s
def AgO (n : Nat) (O O' : Nat → Nat → Nat → Int) : Prop := ∀ s p u : Nat, s < n → p < 12 → u < 2 → O s p u = O' s p u
theorem Agr.up {n : Nat} {x y : GPU} (h : Agr n x y) (s : Nat) (a b : Int) : Agr n (upF x.1 s a, upF x.2 s b) (upF y.1 s a, upF y.2 s b) := by
  intro q hq
  obtain ⟨h1, h2⟩ := h q hq
  unfold upF
  simp only []
  rw [h1, h2]
  exact ⟨rfl, rfl⟩
theorem HF_congr {n : Nat} {x y : GPU} (h : Agr n x y) : HF x.1 n = HF y.1 n := by
  funext q
  exact hoF_congr (fun s hs => (h s hs).1)
theorem lyF_agr {n : Nat} {O O' : Nat → Nat → Nat → Int} {r : Int} {x y : GPU} (h : Agr n x y) (hO : AgO n O O') (hr : 0 ≤ r ∧ r ≤ 3) : Agr n (lyF n O r x) (lyF n O' r y) := by
  unfold lyF
  rw [HF_congr h]
  rcases feF_r (H := HF y.1 n) hr with e | e
  · rw [if_pos e, if_pos e]; exact h
  · have en : ¬ feF (HF y.1 n) r = -1 := by omega
    rw [if_neg en, if_neg en, lbF_congr (n := n) (O' := fun s u => O' s (feF (HF y.1 n) r).toNat u) (fun s u hs hu => hO s _ u hs (by omega) hu) (fun s hs => (h s hs).1) (2 * n) (Nat.le_refl _)]
    by_cases q : (lbF (fun s u => O' s (feF (HF y.1 n) r).toNat u) y.1 (2 * n)).1 = -1
    · rw [if_pos q, if_pos q]; exact h
    · rw [if_neg q, if_neg q]; exact h.up _ _ _
theorem tuF_agr {n : Nat} {p : Int} {x y : GPU} (h : Agr n x y) : Agr n (tuF n p x) (tuF n p y) := by
  unfold tuF
  have e : hoF x.1 p n = hoF y.1 p n := hoF_congr (fun s hs => (h s hs).1)
  rw [e]
  split
  · exact h
  · have b := hoF_b y.1 p n
    rw [(h (hoF y.1 p n).toNat (by omega)).2]
    intro q hq
    obtain ⟨h1, h2⟩ := h q hq
    refine ⟨h1, ?_⟩
    show upF x.2 _ _ q = upF y.2 _ _ q
    unfold upF
    rw [h2]
theorem dyF_agr {n : Nat} {O O' : Nat → Nat → Nat → Int} {w z : Int} {x y : GPU} (h : Agr n x y) (hO : AgO n O O') : Agr n (dyF n O w z x) (dyF n O' w z y) := by
  have r := drF_r (znF z)
  have k := lyF_agr (r := drF (znF z) % 4) h hO (by omega)
  unfold dyF
  split
  · exact tuF_agr k
  · exact k
theorem dysF_agr {n : Nat} {O O' : Nat → Nat → Nat → Int} {w z : Int} {x y : GPU} (h : Agr n x y) (hO : AgO n O O') : ∀ k : Nat, Agr n (dysF n O w z k x) (dysF n O' w z k y)
  | 0 => h
  | k + 1 => dyF_agr (dysF_agr h hO k) hO
/-! what is read off -/
def picH (O : Nat → Nat → Nat → Int) (U H : Nat → Int) : Nat → Int
  | 0 => 0
  | p + 1 => picH O U H p + (if H p = -1 then 198 else O (H p).toNat p (U (H p).toNat).toNat)
def spF2 (L R : Nat → Int) (s : Nat) (h u : Int) : Int := if h = u then L s else R s
def mtP (L R U H : Nat → Int) (p : Nat) : Prop := ¬ (p + 1) % 3 = 0 ∧ ¬ H p = -1 ∧ ¬ H (p + 1) = -1 ∧ spF2 L R (H p).toNat 1 (U (H p).toNat) = spF2 L R (H (p + 1)).toNat 0 (U (H (p + 1)).toNat)
def mtI (L R U H : Nat → Int) (p : Nat) : Int := if ¬ (p + 1) % 3 = 0 ∧ ¬ H p = -1 ∧ ¬ H (p + 1) = -1 ∧ spF2 L R (H p).toNat 1 (U (H p).toNat) = spF2 L R (H (p + 1)).toNat 0 (U (H (p + 1)).toNat) then 1 else 0
def maH (L R U H : Nat → Int) : Nat → Int
  | 0 => 0
  | p + 1 => maH L R U H p + mtI L R U H p
def cnH (H : Nat → Int) : Nat → Int
  | 0 => 0
  | p + 1 => cnH H p + (if H p = -1 then 0 else 1)
def phH (H : Nat → Int) : Nat → Int
  | 0 => 0
  | p + 1 => if H p = -1 then phH H p else fZ (fun x y => x ||| y) (phH H p) (fZ (fun x y => x <<< (y &&& 31)) 1 (p : Int))
def caF (P : Nat → Int) : Nat → Int
  | 0 => 0
  | s + 1 => caF P s + (if P s = 12 then 0 else 1)
def AgH (U H U' H' : Nat → Int) : Prop := ∀ p, p < 12 → H p = H' p ∧ (¬ H p = -1 → U (H p).toNat = U' (H p).toNat)
theorem picH_congr {n : Nat} {O O' : Nat → Nat → Nat → Int} {U H U' H' : Nat → Int} (h : AgH U H U' H') (hn : ∀ p, p < 12 → H p < (n : Int) ∧ -1 ≤ H p) (hu : ∀ s, 0 ≤ U s ∧ U s ≤ 1) (hO : AgO n O O') : ∀ m : Nat, m ≤ 12 → picH O U H m = picH O' U' H' m
  | 0, _ => rfl
  | m + 1, hm => by
    obtain ⟨h1, h2⟩ := h m (by omega)
    have b := hn m (by omega)
    unfold picH
    rw [picH_congr h hn hu hO m (by omega), ← h1]
    by_cases e : H m = -1
    · rw [if_pos e, if_pos e]
    · have u := hu (H m).toNat
      rw [if_neg e, if_neg e, ← h2 e, hO _ m _ (by omega) (by omega) (by omega)]
theorem maH_congr {n : Nat} {L R L' R' U H U' H' : Nat → Int} (h : AgH U H U' H') (hn : ∀ p, p < 12 → H p < (n : Int) ∧ -1 ≤ H p) (hL : ∀ s, s < n → L s = L' s ∧ R s = R' s) : ∀ m : Nat, m ≤ 11 → maH L R U H m = maH L' R' U' H' m
  | 0, _ => rfl
  | m + 1, hm => by
    obtain ⟨h1, h2⟩ := h m (by omega)
    obtain ⟨k1, k2⟩ := h (m + 1) (by omega)
    have b := hn m (by omega)
    have d := hn (m + 1) (by omega)
    unfold maH mtI
    rw [maH_congr h hn hL m (by omega), ← h1, ← k1]
    by_cases e : ¬ (m + 1) % 3 = 0 ∧ ¬ H m = -1 ∧ ¬ H (m + 1) = -1
    · have a1 := hL (H m).toNat (by omega)
      have a2 := hL (H (m + 1)).toNat (by omega)
      have e1 : spF2 L R (H m).toNat 1 (U (H m).toNat) = spF2 L' R' (H m).toNat 1 (U' (H m).toNat) := by
        unfold spF2; rw [a1.1, a1.2, h2 e.2.1]
      have e2 : spF2 L R (H (m + 1)).toNat 0 (U (H (m + 1)).toNat) = spF2 L' R' (H (m + 1)).toNat 0 (U' (H (m + 1)).toNat) := by
        unfold spF2; rw [a2.1, a2.2, k2 e.2.2]
      rw [e1, e2]
    · rw [if_neg (fun q => e ⟨q.1, q.2.1, q.2.2.1⟩), if_neg (fun q => e ⟨q.1, q.2.1, q.2.2.1⟩)]
theorem cnH_congr {H H' : Nat → Int} : ∀ m : Nat, (∀ p, p < m → H p = H' p) → cnH H m = cnH H' m
  | 0, _ => rfl
  | m + 1, h => by
    unfold cnH
    rw [cnH_congr m (fun p hp => h p (by omega)), h m (by omega)]
theorem phH_congr {H H' : Nat → Int} : ∀ m : Nat, (∀ p, p < m → H p = H' p) → phH H m = phH H' m
  | 0, _ => rfl
  | m + 1, h => by
    unfold phH
    rw [phH_congr m (fun p hp => h p (by omega)), h m (by omega)]
theorem caF_congr {P P' : Nat → Int} : ∀ n : Nat, (∀ s, s < n → P s = P' s) → caF P n = caF P' n
  | 0, _ => rfl
  | n + 1, h => by
    unfold caF
    rw [caF_congr n (fun s hs => h s (by omega)), h n (by omega)]
theorem cnH_up {H G : Nat → Int} {a : Nat} (h1 : H a = -1) (h2 : ¬ G a = -1) (h3 : ∀ q, ¬ q = a → G q = H q) : ∀ m : Nat, cnH G m = cnH H m + (if a < m then 1 else 0)
  | 0 => by simp [cnH]
  | m + 1 => by
    unfold cnH
    rw [cnH_up h1 h2 h3 m]
    by_cases e : m = a
    · subst e
      rw [if_neg h2, if_pos h1, if_neg (show ¬ m < m by omega), if_pos (show m < m + 1 by omega), Int.add_zero]
    · rw [h3 m e]
      generalize (if H m = -1 then (0 : Int) else 1) = w
      by_cases q : a < m
      · rw [if_pos q, if_pos (show a < m + 1 by omega)]; omega
      · rw [if_neg q, if_neg (show ¬ a < m + 1 by omega)]; omega
theorem cn_ca {P : Nat → Int} : ∀ n : Nat, InjP P n → (∀ s, s < n → 0 ≤ P s ∧ P s ≤ 12) → cnH (HF P n) 12 = caF P n
  | 0, _, _ => rfl
  | n + 1, hi, hr => by
    have ih := cn_ca n (hi.le (by omega)) (fun s hs => hr s (by omega))
    have b := hr n (by omega)
    unfold caF
    by_cases e : P n = 12
    · rw [if_pos e, ← ih]
      rw [show ∀ x : Int, x + 0 = x from Int.add_zero]
      refine cnH_congr 12 (fun p hp => ?_)
      show (if P n = (p : Int) then (n : Int) else hoF P p n) = hoF P p n
      rw [if_neg (by omega)]
    · rw [if_neg e, ← ih]
      have q := cnH_up (H := HF P n) (G := HF P (n + 1)) (a := (P n).toNat) ?_ ?_ ?_ 12
      · rw [if_pos (by omega)] at q; exact q
      · show hoF P _ n = -1
        refine hoF_none (fun s hs k => ?_)
        have := hi s n (by omega) (by omega) (by omega) (by omega)
        omega
      · show ¬ hoF P _ (n + 1) = -1
        unfold hoF
        rw [if_pos (by omega)]
        omega
      · intro q hq
        show (if P n = (q : Int) then (n : Int) else hoF P q n) = hoF P q n
        rw [if_neg (by omega)]
