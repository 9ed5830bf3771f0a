/-! ===== the best laying: what both sides look for ===== -/
def OkA (L : Nat → Prop) (n m : Nat) (f : Nat → Nat) : Prop := (∀ p, p < m → f p < n ∧ L (f p)) ∧ ∀ p q, p < m → q < m → f p = f q → p = q
def smA (c : Nat → Nat → Int) (f : Nat → Nat) : Nat → Int
  | 0 => 0
  | p + 1 => smA c f p + c (f p) p
def BAp (L : Nat → Prop) (c : Nat → Nat → Int) (n m : Nat) (w z : Int) : Prop := ((∀ f, ¬ OkA L n m f) ∧ z = -1000000005) ∨ ∃ f, OkA L n m f ∧ (∀ g, OkA L n m g → smA c f m < smA c g m ∨ (smA c f m = smA c g m ∧ f 0 ≤ g 0)) ∧ z = if w = 0 then smA c f m else (f 0 : Int)
theorem smA_cg {c c' : Nat → Nat → Int} {n : Nat} {f : Nat → Nat} : ∀ {m : Nat}, (∀ p, p < m → f p < n) → (∀ s p, s < n → p < m → c s p = c' s p) → smA c f m = smA c' f m
  | 0, _, _ => rfl
  | m + 1, h, e => by
    show smA c f m + c (f m) m = smA c' f m + c' (f m) m
    rw [smA_cg (m := m) (fun p hp => h p (by omega)) (fun s p hs hp => e s p hs (by omega)), e _ _ (h m (by omega)) (by omega)]
theorem BAp.un {L L' : Nat → Prop} {c c' : Nat → Nat → Int} {n m : Nat} {w z z' : Int} (h : BAp L c n m w z) (h' : BAp L' c' n m w z') (hL : ∀ s, s < n → (L s ↔ L' s)) (hc : ∀ s p, s < n → p < m → c s p = c' s p) : z = z' := by
  have ok : ∀ f, OkA L n m f ↔ OkA L' n m f := fun f => by
    constructor
    · exact fun k => ⟨fun p hp => ⟨(k.1 p hp).1, (hL _ (k.1 p hp).1).mp (k.1 p hp).2⟩, k.2⟩
    · exact fun k => ⟨fun p hp => ⟨(k.1 p hp).1, (hL _ (k.1 p hp).1).mpr (k.1 p hp).2⟩, k.2⟩
  have sm : ∀ f, OkA L n m f → smA c f m = smA c' f m := fun f k => smA_cg (fun p hp => (k.1 p hp).1) hc
  rcases h with ⟨h1, h2⟩ | ⟨f, h1, h2, h3⟩
  · rcases h' with ⟨k1, k2⟩ | ⟨g, k1, k2, k3⟩
    · rw [h2, k2]
    · exact absurd ((ok g).mpr k1) (h1 g)
  · rcases h' with ⟨k1, k2⟩ | ⟨g, k1, k2, k3⟩
    · exact absurd ((ok f).mp h1) (k1 f)
    · have a := h2 g ((ok g).mpr k1)
      have b := k2 f ((ok f).mp h1)
      rw [sm f h1, sm g ((ok g).mpr k1)] at a
      rw [h3, k3, sm f h1]
      have e : f 0 = g 0 := by omega
      rw [e, show smA c' f m = smA c' g m by omega]
/-! the class: least ways to fill sets of places, stone by stone -/
def OkC (L : Nat → Prop) (k a m : Nat) (f : Nat → Nat) : Prop := (∀ p, p < m → a.testBit p = true → f p < k ∧ L (f p)) ∧ ∀ p q, p < m → q < m → a.testBit p = true → a.testBit q = true → f p = f q → p = q
def smC (o : Nat → Nat → Int) (a : Nat) (f : Nat → Nat) : Nat → Int
  | 0 => 0
  | p + 1 => smC o a f p + if a.testBit p then o (f p) p else 0
def mnF (W o : Nat → Int) (a : Nat) : Nat → Int
  | 0 => W a
  | p + 1 => if a.testBit p then min (mnF W o a p) (W (a - 2 ^ p) + o p) else mnF W o a p
def CW (L : Nat → Prop) (o : Nat → Nat → Int) (m k : Nat) (W : Nat → Int) : Prop := ∀ a, a < 2 ^ m → (0 ≤ W a ∧ W a ≤ 16777216) ∧ (∀ f, OkC L k a m f → W a ≤ smC o a f m) ∧ (W a < 16777216 → ∃ f, OkC L k a m f ∧ smC o a f m = W a)
set_option maxRecDepth 100000 in
theorem bit_rm0 : ∀ a : Nat, a < 64 → ∀ p : Nat, p < 6 → a.testBit p = true → 2 ^ p ≤ a ∧ ∀ q : Nat, q < 6 → (a - 2 ^ p).testBit q = (a.testBit q && !decide (q = p)) := by decide +kernel
theorem bit_rm {a p m : Nat} (hm : m ≤ 6) (ha : a < 2 ^ m) (hp : p < m) (h : a.testBit p = true) : 2 ^ p ≤ a ∧ ∀ q, q < m → (a - 2 ^ p).testBit q = (a.testBit q && !decide (q = p)) := by
  have h6 : 2 ^ m ≤ 2 ^ 6 := Nat.pow_le_pow_right (by decide) hm
  have k := bit_rm0 a (by omega) p (by omega) h
  exact ⟨k.1, fun q hq => k.2 q (by omega)⟩
theorem mnF_le {W o : Nat → Int} {a : Nat} : ∀ m : Nat, mnF W o a m ≤ W a ∧ ∀ p, p < m → a.testBit p = true → mnF W o a m ≤ W (a - 2 ^ p) + o p
  | 0 => ⟨Int.le_refl _, fun p hp => by omega⟩
  | m + 1 => by
    obtain ⟨h1, h2⟩ := mnF_le (W := W) (o := o) (a := a) m
    show (if a.testBit m then min (mnF W o a m) (W (a - 2 ^ m) + o m) else mnF W o a m) ≤ W a ∧ ∀ p, p < m + 1 → a.testBit p = true → (if a.testBit m then min (mnF W o a m) (W (a - 2 ^ m) + o m) else mnF W o a m) ≤ W (a - 2 ^ p) + o p
    by_cases e : a.testBit m = true
    · rw [if_pos e]
      refine ⟨by omega, fun p hp ht => ?_⟩
      by_cases q : p = m
      · subst q; omega
      · have := h2 p (by omega) ht
        omega
    · rw [if_neg e]
      refine ⟨h1, fun p hp ht => ?_⟩
      by_cases q : p = m
      · subst q; exact absurd ht e
      · exact h2 p (by omega) ht
theorem mnF_at {W o : Nat → Int} {a : Nat} : ∀ m : Nat, mnF W o a m = W a ∨ ∃ p, p < m ∧ a.testBit p = true ∧ mnF W o a m = W (a - 2 ^ p) + o p
  | 0 => Or.inl rfl
  | m + 1 => by
    have ih := mnF_at (W := W) (o := o) (a := a) m
    show (if a.testBit m then min (mnF W o a m) (W (a - 2 ^ m) + o m) else mnF W o a m) = W a ∨ ∃ p, p < m + 1 ∧ a.testBit p = true ∧ (if a.testBit m then min (mnF W o a m) (W (a - 2 ^ m) + o m) else mnF W o a m) = W (a - 2 ^ p) + o p
    by_cases e : a.testBit m = true
    · rw [if_pos e]
      by_cases q : mnF W o a m ≤ W (a - 2 ^ m) + o m
      · rw [show min (mnF W o a m) (W (a - 2 ^ m) + o m) = mnF W o a m by omega]
        rcases ih with h | ⟨p, hp, ht, h⟩
        · exact Or.inl h
        · exact Or.inr ⟨p, by omega, ht, h⟩
      · exact Or.inr ⟨m, by omega, e, by omega⟩
    · rw [if_neg e]
      rcases ih with h | ⟨p, hp, ht, h⟩
      · exact Or.inl h
      · exact Or.inr ⟨p, by omega, ht, h⟩
theorem mnF_r {W o : Nat → Int} {a m : Nat} (h6 : m ≤ 6) (ha : a < 2 ^ m) (hW : ∀ b, b < 2 ^ m → 0 ≤ W b ∧ W b ≤ 16777216) (ho : ∀ p, p < m → 0 ≤ o p) (k : Nat) (hk : k ≤ m) : 0 ≤ mnF W o a k ∧ mnF W o a k ≤ 16777216 := by
  have h1 := (mnF_le (W := W) (o := o) (a := a) k).1
  have h2 := hW a ha
  rcases mnF_at (W := W) (o := o) (a := a) k with e | ⟨p, hp, ht, e⟩
  · omega
  · have b := bit_rm h6 ha (by omega) ht
    have h3 := hW (a - 2 ^ p) (Nat.lt_of_le_of_lt (Nat.sub_le _ _) ha)
    have h4 := ho p (by omega)
    omega
theorem smC_rm {o : Nat → Nat → Int} {a b p m : Nat} {f g : Nat → Nat} (ht : a.testBit p = true) (hb : ∀ q, q < m → b.testBit q = (a.testBit q && !decide (q = p))) (hg : ∀ q, ¬ q = p → g q = f q) : ∀ k : Nat, k ≤ m → smC o a g k = smC o b f k + if p < k then o (g p) p else 0
  | 0, _ => by
    rw [if_neg (by omega)]
    rfl
  | k + 1, hk => by
    have ih := smC_rm (o := o) (f := f) ht hb hg k (by omega)
    show smC o a g k + (if a.testBit k then o (g k) k else 0) = smC o b f k + (if b.testBit k then o (f k) k else 0) + _
    rw [ih, hb k (by omega)]
    by_cases e : k = p
    · subst e
      rw [if_neg (Nat.lt_irrefl k), if_pos ht, if_neg (by simp), if_pos (Nat.lt_succ_self k)]
    · have e2 : (a.testBit k && !decide (k = p)) = a.testBit k := by simp [e]
      rw [e2, hg k e]
      by_cases q : p < k
      · rw [if_pos q, if_pos (show p < k + 1 by omega)]; omega
      · rw [if_neg q, if_neg (show ¬ p < k + 1 by omega)]; omega
theorem CW_n {L : Nat → Prop} {o : Nat → Nat → Int} {m k : Nat} {W : Nat → Int} (h : CW L o m k W) (hk : ¬ L k) : CW L o m (k + 1) W := by
  intro a ha
  obtain ⟨h1, h2, h3⟩ := h a ha
  refine ⟨h1, fun f hf => h2 f ⟨fun p hp ht => ?_, hf.2⟩, fun hl => ?_⟩
  · have k1 := hf.1 p hp ht
    have k2 : ¬ f p = k := fun e => hk (by rw [← e]; exact k1.2)
    exact ⟨by omega, k1.2⟩
  · obtain ⟨f, hf, e⟩ := h3 hl
    exact ⟨f, ⟨fun p hp ht => ⟨by have := (hf.1 p hp ht).1; omega, (hf.1 p hp ht).2⟩, hf.2⟩, e⟩
theorem CW_y {L : Nat → Prop} {o : Nat → Nat → Int} {m k : Nat} {W W' : Nat → Int} (hm : m ≤ 6) (h : CW L o m k W) (hk : L k) (ho : ∀ p, p < m → 0 ≤ o k p) (e : ∀ a, a < 2 ^ m → W' a = mnF W (o k) a m) : CW L o m (k + 1) W' := by
  intro a ha
  obtain ⟨h1, h2, h3⟩ := h a ha
  rw [e a ha]
  have r := mnF_r (W := W) (o := o k) hm ha (fun b hb => (h b hb).1) ho m (Nat.le_refl _)
  have ml := mnF_le (W := W) (o := o k) (a := a) m
  refine ⟨r, fun f hf => ?_, fun hl => ?_⟩
  · by_cases q : ∃ p, p < m ∧ a.testBit p = true ∧ f p = k
    · obtain ⟨p, hp, ht, hfp⟩ := q
      obtain ⟨b1, b2⟩ := bit_rm hm ha hp ht
      have s := smC_rm (o := o) (f := f) (g := f) ht b2 (fun _ _ => rfl) m (Nat.le_refl _)
      rw [if_pos hp, hfp] at s
      have okb : OkC L k (a - 2 ^ p) m f := by
        refine ⟨fun q hq htq => ?_, fun q q' hq hq' htq htq' => ?_⟩
        · rw [b2 q hq] at htq
          simp only [Bool.and_eq_true, Bool.not_eq_true', decide_eq_false_iff_not] at htq
          have k1 := hf.1 q hq htq.1
          have k2 : ¬ f q = k := fun e2 => htq.2 (hf.2 q p hq hp htq.1 ht (by rw [e2, hfp]))
          exact ⟨by omega, k1.2⟩
        · rw [b2 q hq] at htq
          rw [b2 q' hq'] at htq'
          simp only [Bool.and_eq_true, Bool.not_eq_true', decide_eq_false_iff_not] at htq htq'
          exact hf.2 q q' hq hq' htq.1 htq'.1
      have k1 := (h (a - 2 ^ p) (Nat.lt_of_le_of_lt (Nat.sub_le _ _) ha)).2.1 f okb
      have k2 := ml.2 p hp ht
      omega
    · have okf : OkC L k a m f := ⟨fun p hp ht => by
        have k1 := hf.1 p hp ht
        have k2 : ¬ f p = k := fun e2 => q ⟨p, hp, ht, e2⟩
        exact ⟨by omega, k1.2⟩, hf.2⟩
      have k1 := h2 f okf
      omega
  · rcases mnF_at (W := W) (o := o k) (a := a) m with e2 | ⟨p, hp, ht, e2⟩
    · obtain ⟨f, hf, e3⟩ := h3 (by omega)
      exact ⟨f, ⟨fun p hp ht => ⟨by have := (hf.1 p hp ht).1; omega, (hf.1 p hp ht).2⟩, hf.2⟩, by rw [e3, e2]⟩
    · obtain ⟨b1, b2⟩ := bit_rm hm ha hp ht
      have op := ho p hp
      obtain ⟨f, hf, e3⟩ := (h (a - 2 ^ p) (Nat.lt_of_le_of_lt (Nat.sub_le _ _) ha)).2.2 (by omega)
      obtain ⟨g, hg⟩ : ∃ g : Nat → Nat, g = fun q => if q = p then k else f q := ⟨_, rfl⟩
      have gp : g p = k := by rw [hg]; simp
      have go : ∀ q, ¬ q = p → g q = f q := fun q hq => by rw [hg]; simp [hq]
      have bt : ∀ q, q < m → a.testBit q = true → ¬ q = p → (a - 2 ^ p).testBit q = true := fun q hq htq hqp => by
        rw [b2 q hq]
        simp [htq, hqp]
      have s := smC_rm (o := o) (f := f) (g := g) ht b2 go m (Nat.le_refl _)
      rw [if_pos hp, gp, e3] at s
      refine ⟨g, ⟨fun q hq htq => ?_, fun q q' hq hq' htq htq' eq => ?_⟩, by rw [s, e2]⟩
      · by_cases c : q = p
        · rw [c, gp]; exact ⟨by omega, hk⟩
        · rw [go q c]
          have k1 := hf.1 q hq (bt q hq htq c)
          exact ⟨by omega, k1.2⟩
      · by_cases c : q = p
        · by_cases c' : q' = p
          · rw [c, c']
          · rw [c, gp, go q' c'] at eq
            have k1 := (hf.1 q' hq' (bt q' hq' htq' c')).1
            omega
        · by_cases c' : q' = p
          · rw [c', gp, go q c] at eq
            have k1 := (hf.1 q hq (bt q hq htq c)).1
            omega
          · rw [go q c, go q' c'] at eq
            exact hf.2 q q' hq hq' (bt q hq htq c) (bt q' hq' htq' c') eq
theorem CW_0 {L : Nat → Prop} {o : Nat → Nat → Int} {m : Nat} {W : Nat → Int} (h0 : W 0 = 0) (h1 : ∀ a, 1 ≤ a → a < 2 ^ m → W a = 16777216) : CW L o m 0 W := by
  intro a ha
  by_cases e : a = 0
  · subst e
    have s : ∀ (f : Nat → Nat) (k : Nat), smC o 0 f k = 0 := by
      intro f k
      induction k with
      | zero => rfl
      | succ k ih =>
        show smC o 0 f k + (if (0 : Nat).testBit k then o (f k) k else 0) = 0
        rw [ih, Nat.zero_testBit, if_neg (by decide)]
        rfl
    rw [h0]
    refine ⟨by decide, fun f _ => by rw [s]; exact Int.le_refl _, fun _ => ⟨fun _ => 0, ⟨fun p _ ht => ?_, fun p q _ _ ht => ?_⟩, s _ _⟩⟩
    · rw [Nat.zero_testBit] at ht; cases ht
    · rw [Nat.zero_testBit] at ht; cases ht
  · rw [h1 a (by omega) ha]
    refine ⟨by decide, fun f hf => ?_, fun h => absurd h (by decide)⟩
    obtain ⟨p, hp⟩ := Nat.exists_testBit_of_ne_zero e
    have hpm : p < m := by
      rcases Nat.lt_or_ge p m with q | q
      · exact q
      · have := Nat.testBit_lt_two_pow (Nat.lt_of_lt_of_le ha (Nat.pow_le_pow_right (by decide) q))
        rw [this] at hp; cases hp
    have := (hf.1 p hpm hp).1
    omega
theorem smC_all {c : Nat → Nat → Int} {o : Nat → Nat → Int} {m : Nat} {f : Nat → Nat} (ho : ∀ s p, o s p = 16 * c s p + if p = 0 then (s : Int) else 0) : ∀ k, k ≤ m → smC o (2 ^ m - 1) f k = 16 * smA c f k + if 0 < k then (f 0 : Int) else 0
  | 0, _ => rfl
  | k + 1, hk => by
    have ih := smC_all (m := m) (f := f) ho k (by omega)
    show smC o (2 ^ m - 1) f k + (if (2 ^ m - 1).testBit k then o (f k) k else 0) = 16 * (smA c f k + c (f k) k) + _
    rw [ih, Nat.testBit_two_pow_sub_one, if_pos (show decide (k < m) = true by simp; omega), if_pos (show 0 < k + 1 by omega), ho]
    by_cases e : k = 0
    · subst e
      rw [if_neg (by omega), if_pos rfl]
      omega
    · rw [if_pos (by omega), if_neg e]
      omega
theorem smA_r {L : Nat → Prop} {c : Nat → Nat → Int} {n m : Nat} {f : Nat → Nat} (hf : ∀ p, p < m → f p < n) (hc : ∀ s p, s < n → p < m → 0 ≤ c s p ∧ c s p ≤ 198) : ∀ k : Nat, k ≤ m → 0 ≤ smA c f k ∧ smA c f k ≤ 198 * k
  | 0, _ => ⟨Int.le_refl _, Int.le_refl _⟩
  | k + 1, hk => by
    have ih := smA_r (L := L) hf hc k (by omega)
    have r := hc _ k (hf k (by omega)) (by omega)
    show 0 ≤ smA c f k + c (f k) k ∧ smA c f k + c (f k) k ≤ _
    omega
theorem CW_e {L : Nat → Prop} {c o : Nat → Nat → Int} {n m : Nat} {W : Nat → Int} {w x z : Int} (hm : 1 ≤ m ∧ m ≤ 6) (hn : n ≤ 12) (h : CW L o m n W) (ho : ∀ s p, o s p = 16 * c s p + if p = 0 then (s : Int) else 0) (hc : ∀ s p, s < n → p < m → 0 ≤ c s p ∧ c s p ≤ 198) (hx : x = W (2 ^ m - 1)) (hz : (16777216 ≤ x ∧ z = -1000000005) ∨ (x < 16777216 ∧ w = 0 ∧ z = x / 16) ∨ (x < 16777216 ∧ ¬ w = 0 ∧ z = x % 16)) : BAp L c n m w z := by
  have hp : 0 < 2 ^ m := Nat.pow_pos (by decide)
  obtain ⟨h1, h2, h3⟩ := h (2 ^ m - 1) (by omega)
  rw [← hx] at h1 h2 h3
  have tb : ∀ p, p < m → (2 ^ m - 1).testBit p = true := fun p q => by rw [Nat.testBit_two_pow_sub_one]; simp [q]
  have okc : ∀ f, OkA L n m f → OkC L n (2 ^ m - 1) m f := fun f k => ⟨fun p q _ => k.1 p q, fun p q a b _ _ => k.2 p q a b⟩
  have oka : ∀ f, OkC L n (2 ^ m - 1) m f → OkA L n m f := fun f k => ⟨fun p q => k.1 p q (tb p q), fun p q a b => k.2 p q a b (tb p a) (tb q b)⟩
  have sm : ∀ f, smC o (2 ^ m - 1) f m = 16 * smA c f m + (f 0 : Int) := fun f => by
    rw [smC_all ho m (Nat.le_refl _), if_pos (by omega)]
  by_cases e : x < 16777216
  · obtain ⟨f, hf, hs⟩ := h3 e
    clear h3
    have fa := oka f hf
    have f0 := (fa.1 0 (by omega)).1
    have fr := smA_r (L := L) (c := c) (fun p q => (fa.1 p q).1) hc m (Nat.le_refl _)
    rw [sm] at hs
    refine Or.inr ⟨f, fa, fun g hg => ?_, ?_⟩
    · have k := h2 g (okc g hg)
      rw [sm] at k
      have g0 := (hg.1 0 (by omega)).1
      omega
    · by_cases q : w = 0
      · rw [if_pos q]; omega
      · rw [if_neg q]; omega
  · clear h3
    refine Or.inl ⟨fun f hf => ?_, by omega⟩
    have k := h2 f (okc f hf)
    rw [sm] at k
    have f0 := (hf.1 0 (by omega)).1
    have fr := smA_r (L := L) (c := c) (fun p q => (hf.1 p q).1) hc m (Nat.le_refl _)
    omega
