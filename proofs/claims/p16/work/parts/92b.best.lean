/-! the reference: least sums by sets of stones, from the last place to the first -/
def imR (m : Nat) (f : Nat → Nat) : Nat → Nat
  | 0 => 0
  | j + 1 => imR m f j ||| 2 ^ f (m - 1 - j)
def srR (c : Nat → Nat → Int) (m : Nat) (f : Nat → Nat) : Nat → Int
  | 0 => 0
  | j + 1 => srR c m f j + c (f (m - 1 - j)) (m - 1 - j)
def OkR (L : Nat → Prop) (n m j : Nat) (f : Nat → Nat) : Prop := (∀ i, i < j → f (m - 1 - i) < n ∧ L (f (m - 1 - i))) ∧ ∀ i i', i < j → i' < j → f (m - 1 - i) = f (m - 1 - i') → i = i'
theorem OkR.le {L : Nat → Prop} {n m j k : Nat} {f : Nat → Nat} (h : OkR L n m j f) (hk : k ≤ j) : OkR L n m k f := ⟨fun i hi => h.1 i (by omega), fun i i' hi hi' => h.2 i i' (by omega) (by omega)⟩
theorem im_tb {m : Nat} {f : Nat → Nat} {i : Nat} : ∀ j : Nat, (imR m f j).testBit i = true ↔ ∃ q, q < j ∧ f (m - 1 - q) = i
  | 0 => by
    constructor
    · intro h
      have e : imR m f 0 = 0 := rfl
      rw [e, Nat.zero_testBit] at h
      cases h
    · rintro ⟨q, hq, _⟩
      omega
  | j + 1 => by
    have ih := im_tb (m := m) (f := f) (i := i) j
    have e : imR m f (j + 1) = imR m f j ||| 2 ^ f (m - 1 - j) := rfl
    rw [e, Nat.testBit_or, Bool.or_eq_true, ih, Nat.testBit_two_pow, decide_eq_true_eq]
    constructor
    · rintro (⟨q, hq, h⟩ | h)
      · exact ⟨q, by omega, h⟩
      · exact ⟨j, by omega, h⟩
    · rintro ⟨q, hq, h⟩
      by_cases w : q = j
      · subst w; exact Or.inr h
      · exact Or.inl ⟨q, by omega, h⟩
theorem im_lt {L : Nat → Prop} {n m : Nat} {f : Nat → Nat} : ∀ j : Nat, OkR L n m j f → imR m f j < 2 ^ n
  | 0, _ => Nat.pow_pos (by decide)
  | j + 1, h => Nat.or_lt_two_pow (im_lt j (h.le (by omega))) (Nat.pow_lt_pow_right (by decide) (h.1 j (by omega)).1)
theorem im_new {L : Nat → Prop} {n m j : Nat} {f : Nat → Nat} (h : OkR L n m (j + 1) f) : ¬ (imR m f j).testBit (f (m - 1 - j)) = true := fun e => by
  obtain ⟨q, hq, e⟩ := (im_tb j).mp e
  have := h.2 q j (by omega) (by omega) e
  omega
theorem or_gt {a s : Nat} (h : ¬ a.testBit s = true) : a < a ||| 2 ^ s := by
  have h1 : a ≤ a ||| 2 ^ s := Nat.left_le_or
  have h2 : ¬ a = a ||| 2 ^ s := fun e => h (by rw [e, Nat.testBit_or, Nat.testBit_two_pow_self]; simp)
  omega
theorem im_up {L : Nat → Prop} {n m j : Nat} {f : Nat → Nat} (h : OkR L n m (j + 1) f) : imR m f j < imR m f (j + 1) := or_gt (im_new h)
def bcN (a : Nat) : Nat → Nat
  | 0 => 0
  | k + 1 => bcN a k + if a.testBit k then 1 else 0
theorem bc_add {a s : Nat} (h : ¬ a.testBit s = true) : ∀ k : Nat, bcN (a ||| 2 ^ s) k = bcN a k + if s < k then 1 else 0
  | 0 => rfl
  | k + 1 => by
    have ih := bc_add h k
    show bcN (a ||| 2 ^ s) k + (if (a ||| 2 ^ s).testBit k then 1 else 0) = bcN a k + (if a.testBit k then 1 else 0) + _
    rw [ih, Nat.testBit_or, Nat.testBit_two_pow]
    by_cases e : s = k
    · subst e
      rw [if_neg (Nat.lt_irrefl s), if_pos (show (a.testBit s || decide (s = s)) = true by simp), if_neg h, if_pos (Nat.lt_succ_self s)]
    · rw [show (a.testBit k || decide (s = k)) = a.testBit k by simp [e]]
      by_cases q : s < k
      · rw [if_pos q, if_pos (show s < k + 1 by omega)]; omega
      · rw [if_neg q, if_neg (show ¬ s < k + 1 by omega)]; omega
theorem im_bc {L : Nat → Prop} {n m : Nat} (hn : n ≤ 12) {f : Nat → Nat} : ∀ j : Nat, OkR L n m j f → bcN (imR m f j) 12 = j
  | 0, _ => by
    have z : ∀ k, bcN 0 k = 0 := by
      intro k
      induction k with
      | zero => rfl
      | succ k ih =>
        show bcN 0 k + (if (0 : Nat).testBit k then 1 else 0) = 0
        rw [ih, Nat.zero_testBit, if_neg (by decide)]
    exact z 12
  | j + 1, h => by
    have ih := im_bc hn j (h.le (by omega))
    have e : imR m f (j + 1) = imR m f j ||| 2 ^ f (m - 1 - j) := rfl
    have hl := (h.1 j (by omega)).1
    rw [e, bc_add (im_new h), ih, if_pos (by omega)]
def ltR (least best s2 b2 : Int) : Prop := 0 ≤ best ∧ (least < s2 ∨ (least = s2 ∧ best ≤ b2))
def RI (L : Nat → Prop) (c : Nat → Nat → Int) (n m e : Nat) (X : Nat → Int) (best least : Int) : Prop := X 0 = 0 ∧ (∀ a, a < 2 ^ n → 0 ≤ X a → ∃ j f, j < m ∧ OkR L n m j f ∧ imR m f j = a ∧ srR c m f j = X a) ∧ (∀ f j, j + 1 < m → OkR L n m (j + 1) f → imR m f j < e → 0 ≤ X (imR m f (j + 1)) ∧ X (imR m f (j + 1)) ≤ srR c m f (j + 1)) ∧ (∀ f, OkR L n m m f → imR m f (m - 1) < e → ltR least best (srR c m f m) (f 0)) ∧ (0 ≤ best → ∃ f, OkR L n m m f ∧ srR c m f m = least ∧ (f 0 : Int) = best)
def RJ (L : Nat → Prop) (c : Nat → Nat → Int) (n m e s : Nat) (X : Nat → Int) (best least : Int) : Prop := RI L c n m e X best least ∧ (∀ f j, j + 1 < m → OkR L n m (j + 1) f → imR m f j = e → f (m - 1 - j) < s → 0 ≤ X (imR m f (j + 1)) ∧ X (imR m f (j + 1)) ≤ srR c m f (j + 1)) ∧ (∀ f, OkR L n m m f → imR m f (m - 1) = e → f 0 < s → ltR least best (srR c m f m) (f 0))
theorem RI_0 {L : Nat → Prop} {c : Nat → Nat → Int} {n m : Nat} {X : Nat → Int} {least : Int} (hm : 1 ≤ m) (h0 : X 0 = 0) (h1 : ∀ a, 1 ≤ a → a < 2 ^ n → X a = -1) : RI L c n m 0 X (-1) least := by
  refine ⟨h0, fun a ha h => ?_, fun f j _ _ h => by omega, fun f _ h => by omega, fun h => by omega⟩
  by_cases e : a = 0
  · subst e
    exact ⟨0, fun _ => 0, by omega, ⟨fun i hi => by omega, fun i i' hi => by omega⟩, rfl, h0.symm⟩
  · have := h1 a (by omega) ha
    omega
theorem RJ_0 {L : Nat → Prop} {c : Nat → Nat → Int} {n m e : Nat} {X : Nat → Int} {best least : Int} (h : RI L c n m e X best least) : RJ L c n m e 0 X best least := ⟨h, fun f j _ _ _ h => by omega, fun f _ _ h => by omega⟩
theorem RI.xe {L : Nat → Prop} {c : Nat → Nat → Int} {n m e : Nat} {X : Nat → Int} {best least : Int} (h : RI L c n m e X best least) {f : Nat → Nat} {j : Nat} (hj : j < m) (hf : OkR L n m j f) (he : imR m f j = e) : 0 ≤ X e ∧ X e ≤ srR c m f j := by
  cases j with
  | zero =>
    have e0 : imR m f 0 = 0 := rfl
    have s0 : srR c m f 0 = 0 := rfl
    rw [← he, e0, s0, h.1]
    exact ⟨Int.le_refl _, Int.le_refl _⟩
  | succ j =>
    have k := h.2.2.1 f j hj hf (by rw [← he]; exact im_up hf)
    rw [he] at k
    exact k
theorem RJ_e {L : Nat → Prop} {c : Nat → Nat → Int} {n m e : Nat} {X : Nat → Int} {best least : Int} (hm : 1 ≤ m) (h : RJ L c n m e n X best least) : RI L c n m (e + 1) X best least := by
  obtain ⟨⟨h0, h1, h2, h3, h4⟩, j2, j3⟩ := h
  refine ⟨h0, h1, fun f j hj hf he => ?_, fun f hf he => ?_, h4⟩
  · by_cases q : imR m f j = e
    · exact j2 f j hj hf q (hf.1 j (by omega)).1
    · exact h2 f j hj hf (by omega)
  · by_cases q : imR m f (m - 1) = e
    · exact j3 f hf q (by have := (hf.1 (m - 1) (by omega)).1; rw [Nat.sub_self] at this; exact this)
    · exact h3 f hf (by omega)
theorem RJ_k {L : Nat → Prop} {c : Nat → Nat → Int} {n m e s : Nat} {X : Nat → Int} {best least left : Int} (hm : 1 ≤ m) (hn : n ≤ 12) (h : RJ L c n m e s X best least) (hl : left = (m : Int) - 1 - (bcN e 12 : Int)) (hk : left < 0 ∨ X e < 0) : RI L c n m (e + 1) X best least := by
  have no : ∀ f j, j < m → OkR L n m j f → ¬ imR m f j = e := fun f j hj hf he => by
    have x := h.1.xe hj hf he
    have b := im_bc hn j hf
    rw [he] at b
    omega
  obtain ⟨⟨h0, h1, h2, h3, h4⟩, j2, j3⟩ := h
  refine ⟨h0, h1, fun f j hj hf he => ?_, fun f hf he => ?_, h4⟩
  · have := no f j (by omega) (hf.le (by omega))
    exact h2 f j hj hf (by omega)
  · have := no f (m - 1) (by omega) (hf.le (by omega))
    exact h3 f hf (by omega)
theorem RJ_n {L : Nat → Prop} {c : Nat → Nat → Int} {n m e s : Nat} {X : Nat → Int} {best least : Int} (hm : 1 ≤ m) (h : RJ L c n m e s X best least) (hs : ¬ (L s ∧ ¬ e.testBit s = true)) : RJ L c n m e (s + 1) X best least := by
  obtain ⟨hi, j2, j3⟩ := h
  refine ⟨hi, fun f j hj hf he hq => ?_, fun f hf he hq => ?_⟩
  · by_cases q : f (m - 1 - j) = s
    · exact absurd ⟨by rw [← q]; exact (hf.1 j (by omega)).2, by rw [← q, ← he]; exact im_new hf⟩ hs
    · exact j2 f j hj hf he (by omega)
  · by_cases q : f 0 = s
    · have hm1 : m - 1 + 1 = m := by omega
      have hf2 : OkR L n m (m - 1 + 1) f := by rw [hm1]; exact hf
      have i1 := im_new hf2
      have i2 := (hf.1 (m - 1) (by omega)).2
      rw [Nat.sub_self, q] at i2
      rw [Nat.sub_self, q, he] at i1
      exact absurd ⟨i2, i1⟩ hs
    · exact j3 f hf he (by omega)
theorem im_cg {m : Nat} {f g : Nat → Nat} : ∀ j : Nat, (∀ i, i < j → f (m - 1 - i) = g (m - 1 - i)) → imR m f j = imR m g j
  | 0, _ => rfl
  | j + 1, h => by
    show imR m f j ||| 2 ^ f (m - 1 - j) = imR m g j ||| 2 ^ g (m - 1 - j)
    rw [im_cg j (fun i hi => h i (by omega)), h j (by omega)]
theorem sr_cg {c : Nat → Nat → Int} {m : Nat} {f g : Nat → Nat} : ∀ j : Nat, (∀ i, i < j → f (m - 1 - i) = g (m - 1 - i)) → srR c m f j = srR c m g j
  | 0, _ => rfl
  | j + 1, h => by
    show srR c m f j + c (f (m - 1 - j)) _ = srR c m g j + c (g (m - 1 - j)) _
    rw [sr_cg j (fun i hi => h i (by omega)), h j (by omega)]
theorem RI.grow {L : Nat → Prop} {c : Nat → Nat → Int} {n m e s : Nat} {X : Nat → Int} {best least left : Int} (h : RI L c n m e X best least) (hn : n ≤ 12) (he : e < 2 ^ n) (hl : left = (m : Int) - 1 - (bcN e 12 : Int)) (hx : 0 ≤ X e) (hs : s < n) (hL : L s) (hb : ¬ e.testBit s = true) : ∃ j g, j < m ∧ left = (m : Int) - 1 - (j : Int) ∧ OkR L n m (j + 1) g ∧ imR m g (j + 1) = e ||| 2 ^ s ∧ srR c m g (j + 1) = X e + c s (m - 1 - j) ∧ g (m - 1 - j) = s := by
  obtain ⟨j, f, hj, hf, hi, hr⟩ := h.2.1 e he hx
  have bj := im_bc hn j hf
  rw [hi] at bj
  obtain ⟨g, hg⟩ : ∃ g : Nat → Nat, g = fun q => if q = m - 1 - j then s else f q := ⟨_, rfl⟩
  have gp : g (m - 1 - j) = s := by rw [hg]; simp
  have go : ∀ i, i < j → g (m - 1 - i) = f (m - 1 - i) := fun i hi => by
    rw [hg]
    show (if m - 1 - i = m - 1 - j then s else f (m - 1 - i)) = _
    rw [if_neg (by omega)]
  have ns : ∀ i, i < j → ¬ f (m - 1 - i) = s := fun i hi2 e2 => hb (by rw [← hi]; exact (im_tb j).mpr ⟨i, hi2, e2⟩)
  refine ⟨j, g, hj, by omega, ⟨fun i hi2 => ?_, fun i i' h1 h2 eq => ?_⟩, ?_, ?_, gp⟩
  · by_cases q : i = j
    · rw [q, gp]; exact ⟨hs, hL⟩
    · rw [go i (by omega)]; exact hf.1 i (by omega)
  · by_cases q : i = j
    · by_cases q' : i' = j
      · omega
      · rw [q, gp, go i' (by omega)] at eq
        exact absurd eq.symm (ns i' (by omega))
    · by_cases q' : i' = j
      · rw [q', gp, go i (by omega)] at eq
        exact absurd eq (ns i (by omega))
      · rw [go i (by omega), go i' (by omega)] at eq
        exact hf.2 i i' (by omega) (by omega) eq
  · show imR m g j ||| 2 ^ g (m - 1 - j) = _
    rw [gp, im_cg j go, hi]
  · show srR c m g j + c (g (m - 1 - j)) _ = _
    rw [gp, sr_cg j go, hr]
theorem ltR.tr {least best l2 b2 s2 p2 : Int} (h : ltR least best s2 p2) (hb : 0 ≤ b2) (k : 0 ≤ best → l2 < least ∨ (l2 = least ∧ b2 ≤ best)) : ltR l2 b2 s2 p2 := by
  obtain ⟨h1, h2⟩ := h
  have := k h1
  exact ⟨hb, by omega⟩
theorem RJ_b {L : Nat → Prop} {c : Nat → Nat → Int} {n m e s : Nat} {X : Nat → Int} {best least left sum b2 l2 : Int} (hm : 1 ≤ m) (h : RJ L c n m e s X best least) (hn : n ≤ 12) (he : e < 2 ^ n) (hl : left = (m : Int) - 1 - (bcN e 12 : Int)) (hx : 0 ≤ X e) (hs : s < n) (hL : L s) (hb : ¬ e.testBit s = true) (h0 : left = 0) (hsum : sum = X e + c s 0) (hv : ((best < 0 ∨ sum < least ∨ (sum = least ∧ (s : Int) < best)) ∧ b2 = (s : Int) ∧ l2 = sum) ∨ (¬ (best < 0 ∨ sum < least ∨ (sum = least ∧ (s : Int) < best)) ∧ b2 = best ∧ l2 = least)) : RJ L c n m e (s + 1) X b2 l2 := by
  obtain ⟨j, g, hj, ej, hg, gi, gs, gp⟩ := h.1.grow hn he hl hx hs hL hb
  have xe := fun f j hj hf he => h.1.xe (f := f) (j := j) hj hf he
  obtain ⟨⟨h0', h1, h2, h3, h4⟩, j2, j3⟩ := h
  have jm : j + 1 = m := by omega
  rw [jm] at hg gs
  rw [show m - 1 - j = 0 by omega] at gs gp
  have mono : 0 ≤ b2 ∧ (0 ≤ best → l2 < least ∨ (l2 = least ∧ b2 ≤ best)) := by
    rcases hv with ⟨v1, v2, v3⟩ | ⟨v1, v2, v3⟩
    · exact ⟨by omega, fun hb => by omega⟩
    · exact ⟨by omega, fun hb => by omega⟩
  refine ⟨⟨h0', h1, h2, fun f hf hi => (h3 f hf hi).tr mono.1 mono.2, fun hb2 => ?_⟩, fun f j hj hf hi hq => ?_, fun f hf hi hq => ?_⟩
  · rcases hv with ⟨v1, v2, v3⟩ | ⟨v1, v2, v3⟩
    · exact ⟨g, hg, by rw [gs, v3, hsum], by rw [gp, v2]⟩
    · obtain ⟨f, f1, f2, f3⟩ := h4 (by omega)
      exact ⟨f, f1, by rw [f2, v3], by rw [f3, v2]⟩
  · have hf2 := im_bc hn j (hf.le (Nat.le_succ j))
    rw [hi] at hf2
    omega
  · by_cases q : f 0 = s
    · have x := xe f (m - 1) (by omega) (hf.le (by omega)) hi
      have sr : srR c m f m = srR c m f (m - 1) + c s 0 := by
        have e1 : srR c m f (m - 1 + 1) = srR c m f (m - 1) + c (f (m - 1 - (m - 1))) (m - 1 - (m - 1)) := rfl
        rw [show m - 1 + 1 = m by omega, Nat.sub_self, q] at e1
        exact e1
      refine ⟨mono.1, ?_⟩
      rw [sr, q]
      rcases hv with ⟨v1, v2, v3⟩ | ⟨v1, v2, v3⟩ <;> omega
    · exact (j3 f hf hi (by omega)).tr mono.1 mono.2
theorem RJ_x {L : Nat → Prop} {c : Nat → Nat → Int} {n m e s G : Nat} {X X' : Nat → Int} {best least left sum : Int} (hm : 1 ≤ m) (h : RJ L c n m e s X best least) (hn : n ≤ 12) (he : e < 2 ^ n) (hl : left = (m : Int) - 1 - (bcN e 12 : Int)) (hx : 0 ≤ X e) (hs : s < n) (hL : L s) (hb : ¬ e.testBit s = true) (h0 : 0 < left) (hG : G = e ||| 2 ^ s) (hsum : sum = X e + c s left.toNat) (hc : 0 ≤ c s left.toNat) (hv : ((X G < 0 ∨ sum < X G) ∧ ∀ a, X' a = if a = G then sum else X a) ∨ (¬ (X G < 0 ∨ sum < X G) ∧ ∀ a, X' a = X a)) : RJ L c n m e (s + 1) X' best least := by
  obtain ⟨j, g, hj, ej, hg, gi, gs, gp⟩ := h.1.grow hn he hl hx hs hL hb
  have xe := fun f j hj hf he => h.1.xe (f := f) (j := j) hj hf he
  obtain ⟨⟨h0', h1, h2, h3, h4⟩, j2, j3⟩ := h
  rw [show m - 1 - j = left.toNat by omega, ← hsum] at gs
  have Gn : e < G := by rw [hG]; exact or_gt hb
  have mono : ∀ a, 0 ≤ X a → 0 ≤ X' a ∧ X' a ≤ X a := fun a ha => by
    rcases hv with ⟨v1, v2⟩ | ⟨v1, v2⟩
    · rw [v2]
      by_cases q : a = G
      · subst q
        rw [if_pos rfl]
        omega
      · rw [if_neg q]; omega
    · rw [v2]; omega
  have XG : 0 ≤ X' G ∧ X' G ≤ sum := by
    rcases hv with ⟨v1, v2⟩ | ⟨v1, v2⟩
    · rw [v2, if_pos rfl]; omega
    · rw [v2]; omega
  refine ⟨⟨?_, fun a ha hxa => ?_, fun f i hi hf hk => ?_, h3, h4⟩, fun f i hi hf hk hq => ?_, fun f hf hk hq => ?_⟩
  · rcases hv with ⟨v1, v2⟩ | ⟨v1, v2⟩
    · rw [v2, if_neg (by omega)]; exact h0'
    · rw [v2]; exact h0'
  · rcases hv with ⟨v1, v2⟩ | ⟨v1, v2⟩
    · rw [v2] at hxa ⊢
      by_cases q : a = G
      · subst q
        rw [if_pos rfl]
        exact ⟨j + 1, g, by omega, hg, by rw [gi, hG], gs⟩
      · rw [if_neg q] at hxa ⊢
        exact h1 a ha hxa
    · rw [v2] at hxa ⊢
      exact h1 a ha hxa
  · have k := h2 f i hi hf hk
    have k2 := mono _ k.1
    omega
  · by_cases q : f (m - 1 - i) = s
    · have bi := im_bc hn i (hf.le (Nat.le_succ i))
      rw [hk] at bi
      have x := xe f i (by omega) (hf.le (Nat.le_succ i)) hk
      have eG : imR m f (i + 1) = G := by
        show imR m f i ||| 2 ^ f (m - 1 - i) = G
        rw [hk, q, hG]
      have sr : srR c m f (i + 1) = srR c m f i + c s left.toNat := by
        show srR c m f i + c (f (m - 1 - i)) (m - 1 - i) = _
        rw [q, show m - 1 - i = left.toNat by omega]
      rw [eG, sr]
      omega
    · have k := j2 f i hi hf hk (by omega)
      have k2 := mono _ k.1
      omega
  · have bm := im_bc hn (m - 1) (hf.le (by omega))
    rw [hk] at bm
    omega
theorem sr_sm {c : Nat → Nat → Int} {m : Nat} {f : Nat → Nat} : ∀ j : Nat, j ≤ m → srR c m f j + smA c f (m - j) = smA c f m
  | 0, _ => by
    show 0 + smA c f (m - 0) = _
    rw [Nat.sub_zero, Int.zero_add]
  | j + 1, hj => by
    have ih := sr_sm (c := c) (m := m) (f := f) j (by omega)
    obtain ⟨k, hk⟩ : ∃ k, m - j = k + 1 := ⟨m - j - 1, by omega⟩
    rw [hk] at ih
    rw [show m - (j + 1) = k by omega]
    have e : smA c f (k + 1) = smA c f k + c (f k) k := rfl
    show srR c m f j + c (f (m - 1 - j)) (m - 1 - j) + smA c f k = _
    rw [show m - 1 - j = k by omega]
    omega
theorem RI_a {L : Nat → Prop} {c : Nat → Nat → Int} {n m e : Nat} {X : Nat → Int} {best least w z : Int} (hm : 1 ≤ m) (he : e = 2 ^ n) (h : RI L c n m e X best least) (hz : (best < 0 ∧ z = -1000000005) ∨ (0 ≤ best ∧ w = 0 ∧ z = least) ∨ (0 ≤ best ∧ ¬ w = 0 ∧ z = best)) : BAp L c n m w z := by
  subst he
  obtain ⟨h0, h1, h2, h3, h4⟩ := h
  have ok : ∀ f, OkA L n m f → OkR L n m m f := fun f k => ⟨fun i hi => k.1 _ (by omega), fun i i' hi hi' e => by have := k.2 _ _ (by omega) (by omega) e; omega⟩
  have ko : ∀ f, OkR L n m m f → OkA L n m f := fun f k => by
    have e : ∀ p, p < m → m - 1 - (m - 1 - p) = p := fun p hp => by omega
    refine ⟨fun p hp => ?_, fun p q hp hq eq => ?_⟩
    · have := k.1 (m - 1 - p) (by omega)
      rw [e p hp] at this
      exact this
    · have := k.2 (m - 1 - p) (m - 1 - q) (by omega) (by omega) (by rw [e p hp, e q hq]; exact eq)
      omega
  have sm : ∀ f, srR c m f m = smA c f m := fun f => by
    have := sr_sm (c := c) (f := f) m (Nat.le_refl _)
    rw [Nat.sub_self] at this
    have e : smA c f 0 = 0 := rfl
    omega
  by_cases q : best < 0
  · clear h4
    refine Or.inl ⟨fun f hf => ?_, by omega⟩
    have k := h3 f (ok f hf) (im_lt _ ((ok f hf).le (by omega)))
    have := k.1
    omega
  · obtain ⟨f, f1, f2, f3⟩ := h4 (by clear h4; omega)
    clear h4
    refine Or.inr ⟨f, ko f f1, fun g hg => ?_, ?_⟩
    · have k := (h3 g (ok g hg) (im_lt _ ((ok g hg).le (by omega)))).2
      rw [sm] at k f2
      omega
    · rw [sm] at f2
      by_cases w0 : w = 0
      · rw [if_pos w0]; omega
      · rw [if_neg w0]; omega
