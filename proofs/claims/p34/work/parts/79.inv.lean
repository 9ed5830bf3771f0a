/-! ===== the law: what stays true between the class and the reference ===== -/
def RG (t u : TS) (b bk bl br bw c : Nat) : Prop := (tI t b 10 = tA u c 1 ∧ tI t b 12 = tA u c 3 ∧ tI t b 13 = tA u c 2 ∧ tI t b 14 = tA u c 0) ∧ (∀ i : Nat, i < 24 → tA t bw i = tA u c (5 + i)) ∧ (∀ i : Nat, (i : Int) < tA u c 1 → tA t bk i = tA u c (29 + 5 * i) ∧ tA t bl i = tA u c (30 + 5 * i) ∧ tA t br i = tA u c (31 + 5 * i))
def RS (t u : TS) : Prop := ∀ k : Nat, k < 4 → tI t (45 + 2 * k) 1 = tA u 83 k ∧ tI t (45 + 2 * k) 2 = tA u 84 k ∧ ∀ i : Nat, i < 24 → tA t ((45 + 2 * k) + 1) i = tA u 85 (24 * k + i)
def RW (t u : TS) : Prop := ∀ s : Nat, s < 5 → tI t (53 + 3 * s) 1 = tA u 86 s ∧ (tA u 86 s = 1 → tI t (53 + 3 * s) 2 = tA u 87 s ∧ woF (tI t (53 + 3 * s) 2) (tI t (53 + 3 * s) 3) (tI t (53 + 3 * s) 4) = tA u 88 s) ∧ (tA u 86 s = 2 → tI t ((53 + 3 * s) + 1) 2 = tA u 87 s ∧ ∀ i : Nat, i < 24 → tA t ((53 + 3 * s) + 1 + 1) i = tA u 89 (24 * s + i)) ∧ (tA u 86 s = 3 → tI t (53 + 3 * s) 5 = tA u 87 s)
def RM (t u : TS) : Prop := tI t 0 9 = tI u 68 3 ∧ tI t 0 8 = tI u 68 35 ∧ tI t 37 1 = tI u 68 9 ∧ ∀ i : Nat, (i : Int) < tI t 0 8 → tA t 44 i = tA u 91 i
def gX (b bk bl br bw : Nat) (p : Nat × Nat) : Prop := ¬ ((p.1 = b ∧ (p.2 = 10 ∨ p.2 = 12 ∨ p.2 = 13 ∨ p.2 = 14)) ∨ p.1 = bk ∨ p.1 = bl ∨ p.1 = br ∨ p.1 = bw)
def mX (p : Nat × Nat) : Prop := ¬ ((p.1 = 0 ∧ (p.2 = 8 ∨ p.2 = 9)) ∨ p.1 = 44 ∨ (p.1 = 37 ∧ p.2 = 1))
def mY (p : Nat × Nat) : Prop := ¬ ((p.1 = 68 ∧ (p.2 = 3 ∨ p.2 = 35 ∨ p.2 = 9)) ∨ p.1 = 91)
theorem FrD.rf (t : TS) : FrD [] t t := ⟨fun _ _ _ => rfl, fun _ _ _ => rfl, fun _ _ _ => rfl⟩
theorem frI {S : List (Nat × Nat)} {t u : TS} (f : FrD S t u) (h : ∀ p ∈ S, 68 ≤ p.1) (c g : Nat) (hc : c < 68) : tI u c g = tI t c g := f.1 c g (fun q => by have := h _ q; simp only at this; omega)
theorem frA {S : List (Nat × Nat)} {t u : TS} (f : FrD S t u) (h : ∀ p ∈ S, 68 ≤ p.1) (c : Nat) (hc : c < 68) (i : Nat) : tA u c i = tA t c i := f.2.1 c (fun q => by have := h _ q; simp only at this; omega) i
theorem grA {S : List (Nat × Nat)} {t u : TS} (f : FrD S t u) (h : ∀ p ∈ S, p.1 < 68) (c : Nat) (hc : 68 ≤ c) (i : Nat) : tA u c i = tA t c i := f.2.1 c (fun q => by have := h _ q; simp only at this; omega) i
theorem RG.c {S : List (Nat × Nat)} {t t' u : TS} {b bk bl br bw c : Nat} (v : RG t u b bk bl br bw c) (f : FrD S t t') (h : ∀ p ∈ S, gX b bk bl br bw p) : RG t' u b bk bl br bw c := by
  have hI : ∀ g, (g = 10 ∨ g = 12 ∨ g = 13 ∨ g = 14) → tI t' b g = tI t b g := fun g hg => f.1 b g (fun q => h _ q (Or.inl ⟨rfl, hg⟩))
  have hk : ∀ i, tA t' bk i = tA t bk i := f.2.1 bk (fun q => h _ q (Or.inr (Or.inl rfl)))
  have hl : ∀ i, tA t' bl i = tA t bl i := f.2.1 bl (fun q => h _ q (Or.inr (Or.inr (Or.inl rfl))))
  have hr : ∀ i, tA t' br i = tA t br i := f.2.1 br (fun q => h _ q (Or.inr (Or.inr (Or.inr (Or.inl rfl)))))
  have hw : ∀ i, tA t' bw i = tA t bw i := f.2.1 bw (fun q => h _ q (Or.inr (Or.inr (Or.inr (Or.inr rfl)))))
  obtain ⟨⟨a1, a2, a3, a4⟩, b1, b2⟩ := v
  exact ⟨⟨by rw [hI 10 (by decide)]; exact a1, by rw [hI 12 (by decide)]; exact a2, by rw [hI 13 (by decide)]; exact a3, by rw [hI 14 (by decide)]; exact a4⟩, fun i hi => by rw [hw]; exact b1 i hi, fun i hi => by rw [hk, hl, hr]; exact b2 i hi⟩
theorem RG.rq {t u u' : TS} {b bk bl br bw c : Nat} (v : RG t u b bk bl br bw c) (h : ∀ i, (i < 4 ∨ (5 ≤ i ∧ i < 29) ∨ (29 ≤ i ∧ i < 89 ∧ (i - 29) % 5 < 3)) → tA u' c i = tA u c i) (hn : tA u c 1 ≤ 12) : RG t u' b bk bl br bw c := by
  obtain ⟨⟨a1, a2, a3, a4⟩, b1, b2⟩ := v
  exact ⟨⟨by rw [h 1 (by decide)]; exact a1, by rw [h 3 (by decide)]; exact a2, by rw [h 2 (by decide)]; exact a3, by rw [h 0 (by decide)]; exact a4⟩, fun i hi => by rw [h (5 + i) (by omega)]; exact b1 i hi, fun i hi => by
    rw [h 1 (by decide)] at hi
    rw [h (29 + 5 * i) (by omega), h (30 + 5 * i) (by omega), h (31 + 5 * i) (by omega)]
    exact b2 i hi⟩
theorem RG.r {t u u' : TS} {b bk bl br bw c : Nat} (v : RG t u b bk bl br bw c) (h : ∀ i, tA u' c i = tA u c i) : RG t u' b bk bl br bw c := by
  obtain ⟨⟨a1, a2, a3, a4⟩, b1, b2⟩ := v
  exact ⟨⟨by rw [h]; exact a1, by rw [h]; exact a2, by rw [h]; exact a3, by rw [h]; exact a4⟩, fun i hi => by rw [h]; exact b1 i hi, fun i hi => by
    rw [h] at hi
    rw [h, h, h]
    exact b2 i hi⟩
theorem RS.c {S : List (Nat × Nat)} {t t' u : TS} (v : RS t u) (f : FrD S t t') (h : ∀ p ∈ S, p.1 < 45 ∨ 53 ≤ p.1) : RS t' u := by
  intro k hk
  have e : ∀ g, tI t' (45 + 2 * k) g = tI t (45 + 2 * k) g := fun g => f.1 _ _ (fun q => by have := h _ q; simp only at this; omega)
  have e2 : ∀ i, tA t' ((45 + 2 * k) + 1) i = tA t ((45 + 2 * k) + 1) i := f.2.1 _ (fun q => by have := h _ q; simp only at this; omega)
  obtain ⟨a, b, d⟩ := v k hk
  exact ⟨by rw [e]; exact a, by rw [e]; exact b, fun i hi => by rw [e2]; exact d i hi⟩
theorem RS.r {S : List (Nat × Nat)} {t u u' : TS} (v : RS t u) (f : FrD S u u') (h : ∀ p ∈ S, p.1 < 83 ∨ 85 < p.1) : RS t u' := by
  intro k hk
  have e : ∀ c, 83 ≤ c → c ≤ 85 → ∀ i, tA u' c i = tA u c i := fun c h1 h2 => f.2.1 _ (fun q => by have := h _ q; simp only at this; omega)
  obtain ⟨a, b, d⟩ := v k hk
  exact ⟨by rw [e 83 (by decide) (by decide)]; exact a, by rw [e 84 (by decide) (by decide)]; exact b, fun i hi => by rw [e 85 (by decide) (by decide)]; exact d i hi⟩
theorem RW.c {S : List (Nat × Nat)} {t t' u : TS} (v : RW t u) (f : FrD S t t') (h : ∀ p ∈ S, p.1 < 53 ∨ 67 < p.1) : RW t' u := by
  intro s hs
  have e : ∀ c g, 53 ≤ c → c ≤ 67 → tI t' c g = tI t c g := fun c g h1 h2 => f.1 _ _ (fun q => by have := h _ q; simp only at this; omega)
  have e2 : ∀ i, tA t' ((53 + 3 * s) + 1 + 1) i = tA t ((53 + 3 * s) + 1 + 1) i := f.2.1 _ (fun q => by have := h _ q; simp only at this; omega)
  obtain ⟨a, b, d, g⟩ := v s hs
  have hb : ∀ g, tI t' (53 + 3 * s) g = tI t (53 + 3 * s) g := fun g => e _ g (by omega) (by omega)
  have hd : ∀ g, tI t' ((53 + 3 * s) + 1) g = tI t ((53 + 3 * s) + 1) g := fun g => e _ g (by omega) (by omega)
  exact ⟨by rw [hb]; exact a, by rw [hb, hb, hb]; exact b, fun q => ⟨by rw [hd]; exact (d q).1, fun i hi => by rw [e2]; exact (d q).2 i hi⟩, by rw [hb]; exact g⟩
theorem RW.r {S : List (Nat × Nat)} {t u u' : TS} (v : RW t u) (f : FrD S u u') (h : ∀ p ∈ S, p.1 < 86 ∨ 89 < p.1) : RW t u' := by
  intro s hs
  have e : ∀ c, 86 ≤ c → c ≤ 89 → ∀ i, tA u' c i = tA u c i := fun c h1 h2 => f.2.1 _ (fun q => by have := h _ q; simp only at this; omega)
  obtain ⟨a, b, d, g⟩ := v s hs
  rw [e 86 (by decide) (by decide), e 87 (by decide) (by decide), e 88 (by decide) (by decide)]
  exact ⟨a, b, fun q => ⟨(d q).1, fun i hi => by rw [e 89 (by decide) (by decide)]; exact (d q).2 i hi⟩, g⟩
theorem RM.c {S : List (Nat × Nat)} {t t' u : TS} (v : RM t u) (f : FrD S t t') (h : ∀ p ∈ S, mX p) : RM t' u := by
  obtain ⟨a, b, d, e⟩ := v
  have e1 : tI t' 0 9 = tI t 0 9 := f.1 _ _ (fun q => h _ q (Or.inl ⟨rfl, Or.inr rfl⟩))
  have e2 : tI t' 0 8 = tI t 0 8 := f.1 _ _ (fun q => h _ q (Or.inl ⟨rfl, Or.inl rfl⟩))
  have e3 : tI t' 37 1 = tI t 37 1 := f.1 _ _ (fun q => h _ q (Or.inr (Or.inr ⟨rfl, rfl⟩)))
  have e4 : ∀ i, tA t' 44 i = tA t 44 i := f.2.1 _ (fun q => h _ q (Or.inr (Or.inl rfl)))
  exact ⟨by rw [e1]; exact a, by rw [e2]; exact b, by rw [e3]; exact d, fun i hi => by rw [e4]; rw [e2] at hi; exact e i hi⟩
theorem RM.r {S : List (Nat × Nat)} {t u u' : TS} (v : RM t u) (f : FrD S u u') (h : ∀ p ∈ S, mY p) : RM t u' := by
  obtain ⟨a, b, d, e⟩ := v
  have e1 : tI u' 68 3 = tI u 68 3 := f.1 _ _ (fun q => h _ q (Or.inl ⟨rfl, Or.inl rfl⟩))
  have e2 : tI u' 68 35 = tI u 68 35 := f.1 _ _ (fun q => h _ q (Or.inl ⟨rfl, Or.inr (Or.inl rfl)⟩))
  have e3 : tI u' 68 9 = tI u 68 9 := f.1 _ _ (fun q => h _ q (Or.inl ⟨rfl, Or.inr (Or.inr rfl)⟩))
  have e4 : ∀ i, tA u' 91 i = tA u 91 i := f.2.1 _ (fun q => h _ q (Or.inr rfl))
  exact ⟨by rw [e1]; exact a, by rw [e2]; exact b, by rw [e3]; exact d, fun i hi => by rw [e4]; exact e i hi⟩
theorem RG.st {S1 S2 : List (Nat × Nat)} {t t1 t2 : TS} {b bk bl br bw c : Nat} (v : RG t t b bk bl br bw c) (f1 : FrD S1 t t1) (f2 : FrD S2 t1 t2) (h1 : ∀ p ∈ S1, p.1 < 68) (hc : 68 ≤ c) (a : ∀ p ∈ S1, gX b bk bl br bw p) (d : ∀ p ∈ S2, gX b bk bl br bw p) (r : ∀ i, tA t2 c i = tA t1 c i) : RG t2 t2 b bk bl br bw c := (((v.c f1 a).r (grA f1 h1 c hc)).r r).c f2 d
theorem RG.sq {S1 S2 : List (Nat × Nat)} {t t1 t2 : TS} {b bk bl br bw c : Nat} (v : RG t t b bk bl br bw c) (f1 : FrD S1 t t1) (f2 : FrD S2 t1 t2) (h1 : ∀ p ∈ S1, p.1 < 68) (hc : 68 ≤ c) (a : ∀ p ∈ S1, gX b bk bl br bw p) (d : ∀ p ∈ S2, gX b bk bl br bw p) (hn : tA t1 c 1 ≤ 12) (r : ∀ i, (i < 4 ∨ (5 ≤ i ∧ i < 29) ∨ (29 ≤ i ∧ i < 89 ∧ (i - 29) % 5 < 3)) → tA t2 c i = tA t1 c i) : RG t2 t2 b bk bl br bw c := (((v.c f1 a).r (grA f1 h1 c hc)).rq r hn).c f2 d
theorem RS.st {S1 S2 : List (Nat × Nat)} {t t1 t2 : TS} (v : RS t t) (f1 : FrD S1 t t1) (f2 : FrD S2 t1 t2) (h1 : ∀ p ∈ S1, p.1 < 68) (h2 : ∀ p ∈ S2, 68 ≤ p.1) (a : ∀ p ∈ S1, p.1 < 45 ∨ 53 ≤ p.1) (d : ∀ p ∈ S2, p.1 < 83 ∨ 85 < p.1) : RS t2 t2 := (((v.c f1 a).r f1 (fun p q => Or.inl (by have := h1 p q; omega))).r f2 d).c f2 (fun p q => Or.inr (by have := h2 p q; omega))
theorem RW.st {S1 S2 : List (Nat × Nat)} {t t1 t2 : TS} (v : RW t t) (f1 : FrD S1 t t1) (f2 : FrD S2 t1 t2) (h1 : ∀ p ∈ S1, p.1 < 68) (h2 : ∀ p ∈ S2, 68 ≤ p.1) (a : ∀ p ∈ S1, p.1 < 53 ∨ 67 < p.1) (d : ∀ p ∈ S2, p.1 < 86 ∨ 89 < p.1) : RW t2 t2 := (((v.c f1 a).r f1 (fun p q => Or.inl (by have := h1 p q; omega))).r f2 d).c f2 (fun p q => Or.inr (by have := h2 p q; omega))
theorem RM.st {S1 S2 : List (Nat × Nat)} {t t1 t2 : TS} (v : RM t t) (f1 : FrD S1 t t1) (f2 : FrD S2 t1 t2) (h1 : ∀ p ∈ S1, p.1 < 68) (h2 : ∀ p ∈ S2, 68 ≤ p.1) (a : ∀ p ∈ S1, mX p) (d : ∀ p ∈ S2, mY p) : RM t2 t2 := (((v.c f1 a).r f1 (fun p q e => by have := h1 p q; omega)).r f2 d).c f2 (fun p q e => by have := h2 p q; omega)
theorem gX_hi {S : List (Nat × Nat)} {b bk bl br bw : Nat} (h : ∀ p ∈ S, 45 ≤ p.1) (hb : b < 45 ∧ bk < 45 ∧ bl < 45 ∧ br < 45 ∧ bw < 45) : ∀ p ∈ S, gX b bk bl br bw p := fun p q e => by have := h p q; omega
theorem mX_hi {S : List (Nat × Nat)} (h : ∀ p ∈ S, 45 ≤ p.1) : ∀ p ∈ S, mX p := fun p q e => by have := h p q; omega
theorem prC_cut {sz : Int} {a w : Nat → Int} (h : 0 ≤ sz ∧ sz ≤ 24) : prC sz a w 24 = prC sz a w sz.toNat := by
  have k : ∀ n, prC sz a w (sz.toNat + n) = prC sz a w sz.toNat := by
    intro n
    induction n with
    | zero => rfl
    | succ n ih =>
      have e : prF sz a w (sz.toNat + n) = w (sz.toNat + n) := by unfold prF; rw [if_neg (by omega)]
      show prC sz a w (sz.toNat + n) + (if prF sz a w (sz.toNat + n) = w (sz.toNat + n) then 0 else 1) = _
      rw [if_pos e, ih]
      omega
  have q := k (24 - sz.toNat)
  rw [show sz.toNat + (24 - sz.toNat) = 24 by omega] at q
  exact q
theorem modF_neg1 (x : Int) : modF x (-1) = 0 := by
  have e0 : jI (-1) = -1 := by decide
  have e : jI x / (-1 : Int32) = - jI x := by
    apply Int32.toInt_inj.mp
    have h1 : (-1 : Int32).toInt = -1 := by decide
    rw [Int32.toInt_div, h1, Int32.toInt_neg, Int.tdiv_neg, Int.tdiv_one]
  show ((jI x - jI x / jI (-1) * jI (-1)).toInt) = 0
  rw [e0, e, Int32.neg_mul_neg, Int32.mul_one, Int32.sub_self]
  rfl
theorem w_ceqE {B : List ab_K} {N tg : Nat} {k : ab_K} {lv : ab_L} {st : List Value} {w : ab_W} {P : Option Value → ab_W → Prop} {x y : Int} (e : x = y) (h : Rn B N tg lv st w P) : Rp B N (o_cmp (fun x y => decide (x = y)) tg k) lv (.int (jI y) :: .int (jI x) :: st) w P := by
  subst e
  exact Rp_run (fun r hr => rb_ceq (fun _ => hr) (fun h => absurd rfl h)) h
def INV (m : Nat) (t : TS) : Prop := OK t ∧ WF t 69 ∧ WF t 70 ∧ (0 ≤ tI t 1 13 ∧ tI t 1 13 ≤ 9999) ∧ (0 ≤ tI t 12 13 ∧ tI t 12 13 ≤ 9999) ∧ (∀ i : Nat, i < 5 → tA t 86 i = 2 → 0 ≤ tA t 87 i ∧ tA t 87 i ≤ 24) ∧ RG t t 1 2 3 4 8 69 ∧ (¬ tI t 0 9 = 0 → RG t t 12 13 14 15 19 70) ∧ RS t t ∧ RW t t ∧ RM t t ∧ (tD t).length ≤ m
theorem WF.sm {t u : TS} {c : Nat} (h : WF t c) (q : ∀ i, tA u c i = tA t c i) : WF u c := by
  intro k hk
  rw [q 4] at hk
  have e : (fun j => tA u c (117 + 96 * k + j)) = (fun j => tA t c (117 + 96 * k + j)) := funext (fun j => q _)
  rw [q, e]
  exact h k hk
theorem sl_sm {t u : TS} (h : ∀ i : Nat, i < 5 → tA t 86 i = 2 → 0 ≤ tA t 87 i ∧ tA t 87 i ≤ 24) (a : ∀ i, tA u 86 i = tA t 86 i) (b : ∀ i, tA u 87 i = tA t 87 i) : ∀ i : Nat, i < 5 → tA u 86 i = 2 → 0 ≤ tA u 87 i ∧ tA u 87 i ≤ 24 := by
  intro i hi e
  rw [a] at e
  rw [b]
  exact h i hi e
def xz (xs : List Int32) (x : Int) : Int := (xs.getD x.toNat 0).toInt
theorem xz_jr (xs : List Int32) (x : Int) : -2147483648 ≤ xz xs x ∧ xz xs x ≤ 2147483647 := by
  have h1 := Int32.le_toInt (xs.getD x.toNat 0)
  have h2 := Int32.toInt_lt (xs.getD x.toNat 0)
  unfold xz
  omega
theorem w_xs {B : List ab_K} {N : Nat} {k : ab_K} {lv : ab_L} {st : List Value} {w : ab_W} {P : Option Value → ab_W → Prop} {x : Int} {xs : List Int32} {j : Nat} (hx : 0 ≤ x ∧ x < xs.length) (hl : xs.length ≤ 3072) (h : Rp B N k lv (.int (jI (xz xs x)) :: st) w P) : Rp B N (o_xald j xs k) lv (.int (jI x) :: .ref (1000000 + j) :: st) w P := by
  have hr : jr x := ⟨by omega, by omega⟩
  refine Rp_map (fun _ => rb_xald (jI_nn (by omega) hr) (x := jI (xz xs x)) ?_) h
  have hn : x.toNat < xs.length := by omega
  rw [jI_clamp (by omega) hr]
  unfold xz
  rw [jI_self, List.getD_eq_getElem?_getD, List.getElem?_eq_getElem hn]
  rfl
theorem w_xlen {B : List ab_K} {N : Nat} {k : ab_K} {lv : ab_L} {st : List Value} {w : ab_W} {P : Option Value → ab_W → Prop} {xs : List Int32} {j : Nat} (h : Rp B N k lv (.int (jI (xs.length : Int)) :: st) w P) : Rp B N (o_xlen j xs k) lv (.ref (1000000 + j) :: st) w P := by
  rw [jI_nat] at h
  exact Rp_map (fun _ => rb_xlen) h
set_option maxRecDepth 100000 in
theorem br_2 {t t1 t2 : TS} {u1 u2 u3 z1 z2 : Int} (f1 : FrD [(1, 10), (2, 100), (3, 100), (4, 100), (5, 100), (6, 100), (9, 100)] t t1) (f2 : FrD [(69, 100)] t1 t2) (g : RG t t 1 2 3 4 8 69) (hp1 : (((¬ (0 ≤ u1 ∧ u1 ≤ 5 ∧ 0 ≤ u2 ∧ u2 ≤ 6 ∧ 0 ≤ u3 ∧ u3 ≤ 6)) ∧ z1 = (-1000000001) ∧ t1 = t) ∨ ((0 ≤ u1 ∧ u1 ≤ 5 ∧ 0 ≤ u2 ∧ u2 ≤ 6 ∧ 0 ≤ u3 ∧ u3 ≤ 6) ∧ (tI t 1 10 = 12) ∧ z1 = (-1000000003) ∧ t1 = t) ∨ ((0 ≤ u1 ∧ u1 ≤ 5 ∧ 0 ≤ u2 ∧ u2 ≤ 6 ∧ 0 ≤ u3 ∧ u3 ≤ 6) ∧ (tI t 1 10 < 12) ∧ z1 = tI t 1 10 ∧ (tI t1 1 10 = tI t 1 10 + 1) ∧ (∀ i, tA t1 2 i = if i = (tI t 1 10).toNat then u1 else tA t 2 i) ∧ (∀ i, tA t1 3 i = if i = (tI t 1 10).toNat then u2 else tA t 3 i) ∧ (∀ i, tA t1 4 i = if i = (tI t 1 10).toNat then u3 else tA t 4 i)))) (hp2 : (((¬ (0 ≤ u1 ∧ u1 ≤ 5 ∧ 0 ≤ u2 ∧ u2 ≤ 6 ∧ 0 ≤ u3 ∧ u3 ≤ 6)) ∧ z2 = (-1000000001) ∧ t2 = t1) ∨ ((0 ≤ u1 ∧ u1 ≤ 5 ∧ 0 ≤ u2 ∧ u2 ≤ 6 ∧ 0 ≤ u3 ∧ u3 ≤ 6) ∧ (tA t1 69 1 = 12) ∧ z2 = (-1000000003) ∧ t2 = t1) ∨ ((0 ≤ u1 ∧ u1 ≤ 5 ∧ 0 ≤ u2 ∧ u2 ≤ 6 ∧ 0 ≤ u3 ∧ u3 ≤ 6) ∧ (tA t1 69 1 < 12) ∧ z2 = tA t1 69 1 ∧ (tA t2 69 1 = tA t1 69 1 + 1) ∧ (tA t2 69 (29 + 5 * (tA t1 69 1).toNat) = u1) ∧ (tA t2 69 (30 + 5 * (tA t1 69 1).toNat) = u2) ∧ (tA t2 69 (31 + 5 * (tA t1 69 1).toNat) = u3) ∧ (∀ i, ¬ i = 1 → (i < 29 + 5 * (tA t1 69 1).toNat ∨ 34 + 5 * (tA t1 69 1).toNat ≤ i) → tA t2 69 i = tA t1 69 i)))) : z1 = z2 ∧ RG t2 t2 1 2 3 4 8 69 := by
  obtain ⟨⟨a1, a2, a3, a4⟩, b1, b2⟩ := g
  have g0 : RG t t 1 2 3 4 8 69 := ⟨⟨a1, a2, a3, a4⟩, b1, b2⟩
  have r := f1.2.1 69 (by simp)
  have cI := frI f2 (by decide)
  have cA := frA f2 (by decide)
  have e10 := cI 1 10 (by decide)
  have e12 := cI 1 12 (by decide)
  have e13 := cI 1 13 (by decide)
  have e14 := cI 1 14 (by decide)
  have r0 := r 0
  have r1 := r 1
  have r2 := r 2
  have r3 := r 3
  have d12 := f1.1 1 12 (by simp)
  have d13 := f1.1 1 13 (by simp)
  have d14 := f1.1 1 14 (by simp)
  rcases hp1 with h | h | h
  · rcases hp2 with k | k | k
    · exact ⟨by rw [h.2.1, k.2.1], by rw [k.2.2, h.2.2]; exact g0⟩
    · exact absurd k.1 h.1
    · exact absurd k.1 h.1
  · rcases hp2 with k | k | k
    · exact absurd h.1 k.1
    · exact ⟨by rw [h.2.2.1, k.2.2.1], by rw [k.2.2.2, h.2.2.2]; exact g0⟩
    · exfalso; have q1 := h.2.1; have q2 := k.2.1; omega
  · rcases hp2 with k | k | k
    · exact absurd h.1 k.1
    · exfalso; have q1 := h.2.1; have q2 := k.2.1; omega
    · obtain ⟨hA, hlt, hz, hn, hk, hl, hr⟩ := h
      obtain ⟨kA, klt, kz, kn, kk, kl, kr, ko⟩ := k
      have en : (tA t1 69 1).toNat = (tI t 1 10).toNat := by rw [r 1, a1]
      rw [en] at kk kl kr ko
      have o0 := ko 0 (by decide) (by omega)
      have o2 := ko 2 (by decide) (by omega)
      have o3 := ko 3 (by decide) (by omega)
      refine ⟨by omega, ⟨by omega, by omega, by omega, by omega⟩, fun i hi => ?_, fun i hi => ?_⟩
      · rw [cA 8 (by decide), f1.2.1 8 (by simp), ko (5 + i) (by omega) (by omega), r]
        exact b1 i hi
      · by_cases q : i = (tI t 1 10).toNat
        · refine ⟨?_, ?_, ?_⟩
          · rw [cA 2 (by decide), hk, if_pos q, q]; exact kk.symm
          · rw [cA 3 (by decide), hl, if_pos q, q]; exact kl.symm
          · rw [cA 4 (by decide), hr, if_pos q, q]; exact kr.symm
        · have hj : (i : Int) < tA t 69 1 := by omega
          refine ⟨?_, ?_, ?_⟩
          · rw [cA 2 (by decide), hk, if_neg q, ko _ (by omega) (by omega), r]; exact (b2 i hj).1
          · rw [cA 3 (by decide), hl, if_neg q, ko _ (by omega) (by omega), r]; exact (b2 i hj).2.1
          · rw [cA 4 (by decide), hr, if_neg q, ko _ (by omega) (by omega), r]; exact (b2 i hj).2.2
set_option maxRecDepth 100000 in
theorem br_5 {t t1 t2 : TS} {u1 u2 z1 z2 : Int} (f1 : FrD [] t t1) (f2 : FrD [] t1 t2) (g : RG t t 1 2 3 4 8 69) (hp1 : (((¬ (0 ≤ u1 ∧ u1 ≤ tI t 1 10 - 1 ∧ 0 ≤ u2 ∧ u2 ≤ 5)) ∧ z1 = (-1000000001)) ∨ ((0 ≤ u1 ∧ u1 ≤ tI t 1 10 - 1 ∧ 0 ≤ u2 ∧ u2 ≤ 5) ∧ (tA t 2 u1.toNat = u2 ∨ u2 = 0 ∨ (u2 = 1 ∧ tA t 2 u1.toNat = 3) ∨ (u2 = 2 ∧ tA t 2 u1.toNat = 4)) ∧ z1 = tA t 3 u1.toNat) ∨ ((0 ≤ u1 ∧ u1 ≤ tI t 1 10 - 1 ∧ 0 ≤ u2 ∧ u2 ≤ 5) ∧ (¬ (tA t 2 u1.toNat = u2 ∨ u2 = 0 ∨ (u2 = 1 ∧ tA t 2 u1.toNat = 3) ∨ (u2 = 2 ∧ tA t 2 u1.toNat = 4))) ∧ z1 = (-1000000012)))) (hp2 : (((¬ (0 ≤ u1 ∧ u1 ≤ tA t1 69 1 - 1 ∧ 0 ≤ u2 ∧ u2 ≤ 5)) ∧ z2 = (-1000000001)) ∨ ((0 ≤ u1 ∧ u1 ≤ tA t1 69 1 - 1 ∧ 0 ≤ u2 ∧ u2 ≤ 5) ∧ (tA t1 69 (29 + 5 * u1 + 0).toNat = u2 ∨ u2 = 0 ∨ (u2 = 1 ∧ tA t1 69 (29 + 5 * u1 + 0).toNat = 3) ∨ (u2 = 2 ∧ tA t1 69 (29 + 5 * u1 + 0).toNat = 4)) ∧ z2 = tA t1 69 (29 + 5 * u1 + 1).toNat) ∨ ((0 ≤ u1 ∧ u1 ≤ tA t1 69 1 - 1 ∧ 0 ≤ u2 ∧ u2 ≤ 5) ∧ (¬ (tA t1 69 (29 + 5 * u1 + 0).toNat = u2 ∨ u2 = 0 ∨ (u2 = 1 ∧ tA t1 69 (29 + 5 * u1 + 0).toNat = 3) ∨ (u2 = 2 ∧ tA t1 69 (29 + 5 * u1 + 0).toNat = 4))) ∧ z2 = (-1000000012)))) : z1 = z2 := by
  obtain ⟨⟨a1, a2, a3, a4⟩, b1, b2⟩ := g
  have r := f1.2.1 69 (by simp)
  have r1 := r 1
  by_cases q : 0 ≤ u1 ∧ u1 ≤ tI t 1 10 - 1 ∧ 0 ≤ u2 ∧ u2 ≤ 5
  · have hj : ((u1.toNat : Nat) : Int) < tA t 69 1 := by omega
    have b := b2 _ hj
    have e0 : (29 + 5 * u1 + 0).toNat = 29 + 5 * u1.toNat := by omega
    have e1 : (29 + 5 * u1 + 1).toNat = 30 + 5 * u1.toNat := by omega
    rw [e0, e1] at hp2
    have r2 := r (29 + 5 * u1.toNat)
    have r3 := r (30 + 5 * u1.toNat)
    omega
  · omega
set_option maxRecDepth 100000 in
theorem br_6 {t t1 t2 : TS} {u1 u2 z1 z2 : Int} (f1 : FrD [(2, 100), (9, 100)] t t1) (f2 : FrD [(69, 100)] t1 t2) (g : RG t t 1 2 3 4 8 69) (hp1 : (((¬ (0 ≤ u1 ∧ u1 ≤ tI t 1 10 - 1 ∧ 0 ≤ u2 ∧ u2 ≤ 5)) ∧ z1 = (-1000000001) ∧ t1 = t) ∨ ((0 ≤ u1 ∧ u1 ≤ tI t 1 10 - 1 ∧ 0 ≤ u2 ∧ u2 ≤ 5) ∧ z1 = tA t 2 u1.toNat ∧ (∀ i, tA t1 2 i = if i = u1.toNat then u2 else tA t 2 i)))) (hp2 : (((¬ (0 ≤ u1 ∧ u1 ≤ tA t1 69 1 - 1 ∧ 0 ≤ u2 ∧ u2 ≤ 5)) ∧ z2 = (-1000000001) ∧ t2 = t1) ∨ ((0 ≤ u1 ∧ u1 ≤ tA t1 69 1 - 1 ∧ 0 ≤ u2 ∧ u2 ≤ 5) ∧ z2 = tA t1 69 (29 + 5 * u1).toNat ∧ (t2 = uA t1 69 (29 + 5 * u1).toNat u2)))) : z1 = z2 ∧ RG t2 t2 1 2 3 4 8 69 := by
  obtain ⟨⟨a1, a2, a3, a4⟩, b1, b2⟩ := g
  have g0 : RG t t 1 2 3 4 8 69 := ⟨⟨a1, a2, a3, a4⟩, b1, b2⟩
  have r := f1.2.1 69 (by simp)
  have cI := frI f2 (by decide)
  have cA := frA f2 (by decide)
  have e10 := cI 1 10 (by decide)
  have e12 := cI 1 12 (by decide)
  have e13 := cI 1 13 (by decide)
  have e14 := cI 1 14 (by decide)
  have r0 := r 0
  have r1 := r 1
  have r2 := r 2
  have r3 := r 3
  have d10 := f1.1 1 10 (by simp)
  have d12 := f1.1 1 12 (by simp)
  have d13 := f1.1 1 13 (by simp)
  have d14 := f1.1 1 14 (by simp)
  rcases hp1 with h | h
  · rcases hp2 with k | k
    · exact ⟨by rw [h.2.1, k.2.1], by rw [k.2.2, h.2.2]; exact g0⟩
    · exfalso; have q1 := h.1; have q2 := k.1; omega
  · rcases hp2 with k | k
    · exfalso; have q1 := h.1; have q2 := k.1; omega
    · obtain ⟨hA, hz, hk⟩ := h
      obtain ⟨kA, kz, kt⟩ := k
      have ko : ∀ i, tA t2 69 i = if i = 29 + 5 * u1.toNat then u2 else tA t1 69 i := by
        intro i
        rw [kt, tA_uA, show (29 + 5 * u1).toNat = 29 + 5 * u1.toNat by omega]
        simp
      rw [show (29 + 5 * u1).toNat = 29 + 5 * u1.toNat by omega] at kz
      have hs : (u1.toNat : Int) < tA t 69 1 := by omega
      have bs := b2 _ hs
      have rs := r (29 + 5 * u1.toNat)
      have o0 := ko 0
      have o1 := ko 1
      have o2 := ko 2
      have o3 := ko 3
      rw [if_neg (by omega)] at o0 o1 o2 o3
      refine ⟨by omega, ⟨by omega, by omega, by omega, by omega⟩, fun i hi => ?_, fun i hi => ?_⟩
      · rw [cA 8 (by decide), f1.2.1 8 (by simp), ko, if_neg (by omega), r]
        exact b1 i hi
      · have hj : (i : Int) < tA t 69 1 := by omega
        refine ⟨?_, ?_, ?_⟩
        · rw [cA 2 (by decide), hk, ko]
          by_cases q : i = u1.toNat
          · rw [if_pos q, if_pos (by omega)]
          · rw [if_neg q, if_neg (by omega), r]; exact (b2 i hj).1
        · rw [cA 3 (by decide), f1.2.1 3 (by simp), ko, if_neg (by omega), r]; exact (b2 i hj).2.1
        · rw [cA 4 (by decide), f1.2.1 4 (by simp), ko, if_neg (by omega), r]; exact (b2 i hj).2.2
set_option maxRecDepth 100000 in
theorem br_9 {t t1 t2 : TS} {u1 u2 z1 z2 : Int} (f1 : FrD [(8, 100)] t t1) (f2 : FrD [(69, 100)] t1 t2) (g : RG t t 1 2 3 4 8 69) (hp1 : (((¬ (0 ≤ u1 ∧ u1 ≤ 23 ∧ 0 ≤ u2 ∧ u2 ≤ 99)) ∧ z1 = (-1000000001) ∧ t1 = t) ∨ ((0 ≤ u1 ∧ u1 ≤ 23 ∧ 0 ≤ u2 ∧ u2 ≤ 99) ∧ z1 = tA t 8 u1.toNat ∧ (t1 = uA t 8 u1.toNat u2)))) (hp2 : (((¬ (0 ≤ u1 ∧ u1 ≤ 23 ∧ 0 ≤ u2 ∧ u2 ≤ 99)) ∧ z2 = (-1000000001) ∧ t2 = t1) ∨ ((0 ≤ u1 ∧ u1 ≤ 23 ∧ 0 ≤ u2 ∧ u2 ≤ 99) ∧ z2 = tA t1 69 (5 + u1).toNat ∧ (t2 = uA t1 69 (5 + u1).toNat u2)))) : z1 = z2 ∧ RG t2 t2 1 2 3 4 8 69 := by
  obtain ⟨⟨a1, a2, a3, a4⟩, b1, b2⟩ := g
  have g0 : RG t t 1 2 3 4 8 69 := ⟨⟨a1, a2, a3, a4⟩, b1, b2⟩
  have r := f1.2.1 69 (by simp)
  have cI := frI f2 (by decide)
  have cA := frA f2 (by decide)
  have e10 := cI 1 10 (by decide)
  have e12 := cI 1 12 (by decide)
  have e13 := cI 1 13 (by decide)
  have e14 := cI 1 14 (by decide)
  have r0 := r 0
  have r1 := r 1
  have r2 := r 2
  have r3 := r 3
  have d10 := f1.1 1 10 (by simp)
  have d12 := f1.1 1 12 (by simp)
  have d13 := f1.1 1 13 (by simp)
  have d14 := f1.1 1 14 (by simp)
  rcases hp1 with h | h
  · rcases hp2 with k | k
    · exact ⟨by rw [h.2.1, k.2.1], by rw [k.2.2, h.2.2]; exact g0⟩
    · exact absurd k.1 h.1
  · rcases hp2 with k | k
    · exact absurd h.1 k.1
    · obtain ⟨hA, hz, ht⟩ := h
      obtain ⟨kA, kz, kt⟩ := k
      have ec : (5 + u1).toNat = 5 + u1.toNat := by omega
      rw [ec] at kz kt
      have ko : ∀ i, tA t2 69 i = if i = 5 + u1.toNat then u2 else tA t1 69 i := by
        intro i
        rw [kt, tA_uA]
        simp
      have ho : ∀ i, tA t1 8 i = if i = u1.toNat then u2 else tA t 8 i := by
        intro i
        rw [ht, tA_uA]
        simp
      have bs := b1 u1.toNat (by omega)
      have rs := r (5 + u1.toNat)
      have o0 := ko 0
      have o1 := ko 1
      have o2 := ko 2
      have o3 := ko 3
      rw [if_neg (by omega)] at o0 o1 o2 o3
      refine ⟨by omega, ⟨by omega, by omega, by omega, by omega⟩, fun i hi => ?_, fun i hi => ?_⟩
      · rw [cA 8 (by decide), ho, ko]
        by_cases q : i = u1.toNat
        · rw [if_pos q, if_pos (by omega)]
        · rw [if_neg q, if_neg (by omega), r]; exact b1 i hi
      · have hj : (i : Int) < tA t 69 1 := by omega
        refine ⟨?_, ?_, ?_⟩
        · rw [cA 2 (by decide), f1.2.1 2 (by simp), ko, if_neg (by omega), r]; exact (b2 i hj).1
        · rw [cA 3 (by decide), f1.2.1 3 (by simp), ko, if_neg (by omega), r]; exact (b2 i hj).2.1
        · rw [cA 4 (by decide), f1.2.1 4 (by simp), ko, if_neg (by omega), r]; exact (b2 i hj).2.2
set_option maxRecDepth 100000 in
theorem br_10 {t t1 t2 : TS} {u1 z1 z2 : Int} (f1 : FrD [(1, 12)] t t1) (f2 : FrD [(69, 100)] t1 t2) (g : RG t t 1 2 3 4 8 69) (hp1 : (((¬ (0 ≤ u1 ∧ u1 ≤ 100)) ∧ z1 = (-1000000001) ∧ t1 = t) ∨ ((0 ≤ u1 ∧ u1 ≤ 100) ∧ z1 = tI t 1 12 ∧ (t1 = uI t 1 12 u1)))) (hp2 : (((¬ (0 ≤ u1 ∧ u1 ≤ 100)) ∧ z2 = (-1000000001) ∧ t2 = t1) ∨ ((0 ≤ u1 ∧ u1 ≤ 100) ∧ z2 = tA t1 69 3 ∧ (t2 = uA t1 69 3 u1)))) : z1 = z2 ∧ RG t2 t2 1 2 3 4 8 69 := by
  obtain ⟨⟨a1, a2, a3, a4⟩, b1, b2⟩ := g
  have g0 : RG t t 1 2 3 4 8 69 := ⟨⟨a1, a2, a3, a4⟩, b1, b2⟩
  have r := f1.2.1 69 (by simp)
  have cI := frI f2 (by decide)
  have cA := frA f2 (by decide)
  have e10 := cI 1 10 (by decide)
  have e12 := cI 1 12 (by decide)
  have e13 := cI 1 13 (by decide)
  have e14 := cI 1 14 (by decide)
  have r0 := r 0
  have r1 := r 1
  have r2 := r 2
  have r3 := r 3
  have d10 := f1.1 1 10 (by simp)
  have d13 := f1.1 1 13 (by simp)
  have d14 := f1.1 1 14 (by simp)
  rcases hp1 with h | h
  · rcases hp2 with k | k
    · exact ⟨by rw [h.2.1, k.2.1], by rw [k.2.2, h.2.2]; exact g0⟩
    · exact absurd k.1 h.1
  · rcases hp2 with k | k
    · exact absurd h.1 k.1
    · obtain ⟨hA, hz, ht⟩ := h
      obtain ⟨kA, kz, kt⟩ := k
      have ko : ∀ i, ¬ i = 3 → tA t2 69 i = tA t1 69 i := by
        intro i hi
        rw [kt, tA_uA, if_neg (by omega)]
      have k3 : tA t2 69 3 = u1 := by rw [kt, tA_uA]; simp
      have h3 : tI t1 1 12 = u1 := by rw [ht, tI_uI]; simp
      have o0 := ko 0 (by decide)
      have o1 := ko 1 (by decide)
      have o2 := ko 2 (by decide)
      refine ⟨by omega, ⟨by omega, by omega, by omega, by omega⟩, fun i hi => ?_, fun i hi => ?_⟩
      · rw [cA 8 (by decide), f1.2.1 8 (by simp), ko (5 + i) (by omega), r]
        exact b1 i hi
      · have hj : (i : Int) < tA t 69 1 := by omega
        refine ⟨?_, ?_, ?_⟩
        · rw [cA 2 (by decide), f1.2.1 2 (by simp), ko _ (by omega), r]; exact (b2 i hj).1
        · rw [cA 3 (by decide), f1.2.1 3 (by simp), ko _ (by omega), r]; exact (b2 i hj).2.1
        · rw [cA 4 (by decide), f1.2.1 4 (by simp), ko _ (by omega), r]; exact (b2 i hj).2.2
set_option maxRecDepth 100000 in
theorem br_11 {t t1 t2 : TS} {u1 z1 z2 : Int} (f1 : FrD [(1, 10), (1, 14), (2, 100), (3, 100), (4, 100), (5, 100), (6, 100), (9, 100)] t t1) (f2 : FrD [(69, 100)] t1 t2) (g : RG t t 1 2 3 4 8 69) (hp1 : (((¬ (1 ≤ u1 ∧ u1 ≤ 12)) ∧ z1 = (-1000000001) ∧ t1 = t) ∨ ((1 ≤ u1 ∧ u1 ≤ 12) ∧ z1 = min u1 (12 - tI t 1 10) ∧ (tI t1 1 10 = tI t 1 10 + min u1 (12 - tI t 1 10)) ∧ (tI t1 1 14 = dzF (min u1 (12 - tI t 1 10)).toNat (tI t 1 14)) ∧ (∀ m : Nat, tA t1 2 m = if tI t 1 10 ≤ (m : Int) ∧ (m : Int) < tI t 1 10 + min u1 (12 - tI t 1 10) then kdF (tI t 1 14) (m - (tI t 1 10).toNat) else tA t 2 m) ∧ (∀ m : Nat, tA t1 3 m = if tI t 1 10 ≤ (m : Int) ∧ (m : Int) < tI t 1 10 + min u1 (12 - tI t 1 10) then ldF (tI t 1 14) (m - (tI t 1 10).toNat) else tA t 3 m) ∧ (∀ m : Nat, tA t1 4 m = if tI t 1 10 ≤ (m : Int) ∧ (m : Int) < tI t 1 10 + min u1 (12 - tI t 1 10) then rdF (tI t 1 14) (m - (tI t 1 10).toNat) else tA t 4 m)))) (hp2 : (((¬ (1 ≤ u1 ∧ u1 ≤ 12)) ∧ z2 = (-1000000001) ∧ t2 = t1) ∨ ((1 ≤ u1 ∧ u1 ≤ 12) ∧ z2 = min u1 (12 - tA t1 69 1) ∧ (tA t2 69 1 = tA t1 69 1 + min u1 (12 - tA t1 69 1)) ∧ (tA t2 69 0 = dzF (min u1 (12 - tA t1 69 1)).toNat (tA t1 69 0)) ∧ (∀ m : Nat, tA t2 69 (29 + 5 * m) = if tA t1 69 1 ≤ (m : Int) ∧ (m : Int) < tA t1 69 1 + min u1 (12 - tA t1 69 1) then kdF (tA t1 69 0) (m - (tA t1 69 1).toNat) else tA t1 69 (29 + 5 * m)) ∧ (∀ m : Nat, tA t2 69 (30 + 5 * m) = if tA t1 69 1 ≤ (m : Int) ∧ (m : Int) < tA t1 69 1 + min u1 (12 - tA t1 69 1) then ldF (tA t1 69 0) (m - (tA t1 69 1).toNat) else tA t1 69 (30 + 5 * m)) ∧ (∀ m : Nat, tA t2 69 (31 + 5 * m) = if tA t1 69 1 ≤ (m : Int) ∧ (m : Int) < tA t1 69 1 + min u1 (12 - tA t1 69 1) then rdF (tA t1 69 0) (m - (tA t1 69 1).toNat) else tA t1 69 (31 + 5 * m)) ∧ (∀ i, ¬ i = 0 → ¬ i = 1 → (i < 29 ∨ 89 ≤ i) → tA t2 69 i = tA t1 69 i)))) : z1 = z2 ∧ RG t2 t2 1 2 3 4 8 69 := by
  obtain ⟨⟨a1, a2, a3, a4⟩, b1, b2⟩ := g
  have g0 : RG t t 1 2 3 4 8 69 := ⟨⟨a1, a2, a3, a4⟩, b1, b2⟩
  have r := f1.2.1 69 (by simp)
  have cI := frI f2 (by decide)
  have cA := frA f2 (by decide)
  have e10 := cI 1 10 (by decide)
  have e12 := cI 1 12 (by decide)
  have e13 := cI 1 13 (by decide)
  have e14 := cI 1 14 (by decide)
  have r0 := r 0
  have r1 := r 1
  have r2 := r 2
  have r3 := r 3
  have d12 := f1.1 1 12 (by simp)
  have d13 := f1.1 1 13 (by simp)
  rcases hp1 with h | h
  · rcases hp2 with k | k
    · exact ⟨by rw [h.2.1, k.2.1], by rw [k.2.2, h.2.2]; exact g0⟩
    · exact absurd k.1 h.1
  · rcases hp2 with k | k
    · exact absurd h.1 k.1
    · obtain ⟨hA, hz, hn, hd, hk, hl, hr⟩ := h
      obtain ⟨kA, kz, kn, kd, kk, kl, kr, ko⟩ := k
      have e1 : tA t1 69 1 = tI t 1 10 := by omega
      have e0 : tA t1 69 0 = tI t 1 14 := by omega
      rw [e1] at kz kn kk kl kr
      rw [e1, e0] at kd
      rw [e0] at kk kl kr
      have o2 := ko 2 (by decide) (by decide) (by decide)
      have o3 := ko 3 (by decide) (by decide) (by decide)
      refine ⟨by omega, ⟨by omega, by omega, by omega, by omega⟩, fun i hi => ?_, fun i hi => ?_⟩
      · rw [cA 8 (by decide), f1.2.1 8 (by simp), ko (5 + i) (by omega) (by omega) (by omega), r]
        exact b1 i hi
      · rw [cA 2 (by decide), cA 3 (by decide), cA 4 (by decide), hk, hl, hr, kk, kl, kr]
        by_cases q : tI t 1 10 ≤ (i : Int) ∧ (i : Int) < tI t 1 10 + min u1 (12 - tI t 1 10)
        · rw [if_pos q, if_pos q, if_pos q, if_pos q, if_pos q, if_pos q]
          exact ⟨rfl, rfl, rfl⟩
        · rw [if_neg q, if_neg q, if_neg q, if_neg q, if_neg q, if_neg q, r, r, r]
          exact b2 i (by omega)
set_option maxRecDepth 100000 in
theorem br_12 {t t1 t2 : TS} {u1 z1 z2 : Int} (f1 : FrD [(1, 14)] t t1) (f2 : FrD [(69, 100)] t1 t2) (g : RG t t 1 2 3 4 8 69) (hp1 : (z1 = tI t 1 14) ∧ (t1 = uI t 1 14 u1)) (hp2 : (z2 = tA t1 69 0) ∧ (t2 = uA t1 69 0 u1)) : z1 = z2 ∧ RG t2 t2 1 2 3 4 8 69 := by
  obtain ⟨⟨a1, a2, a3, a4⟩, b1, b2⟩ := g
  have g0 : RG t t 1 2 3 4 8 69 := ⟨⟨a1, a2, a3, a4⟩, b1, b2⟩
  have r := f1.2.1 69 (by simp)
  have cI := frI f2 (by decide)
  have cA := frA f2 (by decide)
  have e10 := cI 1 10 (by decide)
  have e12 := cI 1 12 (by decide)
  have e13 := cI 1 13 (by decide)
  have e14 := cI 1 14 (by decide)
  have r0 := r 0
  have r1 := r 1
  have r2 := r 2
  have r3 := r 3
  have d10 := f1.1 1 10 (by simp)
  have d13 := f1.1 1 13 (by simp)
  have d12 := f1.1 1 12 (by simp)
  obtain ⟨hz, ht⟩ := hp1
  obtain ⟨kz, kt⟩ := hp2
  have ko : ∀ i, ¬ i = 0 → tA t2 69 i = tA t1 69 i := by
    intro i hi
    rw [kt, tA_uA, if_neg (by omega)]
  have k3 : tA t2 69 0 = u1 := by rw [kt, tA_uA]; simp
  have h3 : tI t1 1 14 = u1 := by rw [ht, tI_uI]; simp
  have o1 := ko 1 (by decide)
  have o2 := ko 2 (by decide)
  have o3 := ko 3 (by decide)
  refine ⟨by omega, ⟨by omega, by omega, by omega, by omega⟩, fun i hi => ?_, fun i hi => ?_⟩
  · rw [cA 8 (by decide), f1.2.1 8 (by simp), ko (5 + i) (by omega), r]
    exact b1 i hi
  · have hj : (i : Int) < tA t 69 1 := by omega
    refine ⟨?_, ?_, ?_⟩
    · rw [cA 2 (by decide), f1.2.1 2 (by simp), ko _ (by omega), r]; exact (b2 i hj).1
    · rw [cA 3 (by decide), f1.2.1 3 (by simp), ko _ (by omega), r]; exact (b2 i hj).2.1
    · rw [cA 4 (by decide), f1.2.1 4 (by simp), ko _ (by omega), r]; exact (b2 i hj).2.2
set_option maxRecDepth 100000 in
theorem br_13 {t t1 t2 : TS} {u1 z1 z2 : Int} (f1 : FrD [(1, 13), (1, 14), (5, 100), (6, 100), (7, 100)] t t1) (f2 : FrD [(69, 100), (81, 100), (82, 100)] t1 t2) (g : RG t t 1 2 3 4 8 69) (hp1 : (-2147483648 ≤ z1) ∧ (z1 ≤ 2147483647) ∧ (((¬ (1 ≤ u1 ∧ u1 ≤ 100)) ∧ z1 = (-1000000001) ∧ t1 = t) ∨ ((1 ≤ u1 ∧ u1 ≤ 100) ∧ (tI t1 1 14 = zdsF (min u1 (9999 - tI t 1 13)).toNat (tI t 1 14) (tI t 1 12)) ∧ (tI t1 1 13 = tI t 1 13 + min u1 (9999 - tI t 1 13))))) (hp2 : (-2147483648 ≤ z2) ∧ (z2 ≤ 2147483647) ∧ (Dq t1 t2) ∧ (((¬ (1 ≤ u1 ∧ u1 ≤ 100)) ∧ z2 = (-1000000001) ∧ t2 = t1) ∨ ((1 ≤ u1 ∧ u1 ≤ 100) ∧ (tA t2 69 0 = zdsF (min u1 (9999 - tA t1 69 2)).toNat (tA t1 69 0) (tA t1 69 3)) ∧ (tA t2 69 2 = tA t1 69 2 + min u1 (9999 - tA t1 69 2))))) : True ∧ RG t2 t2 1 2 3 4 8 69 := by
  obtain ⟨⟨a1, a2, a3, a4⟩, b1, b2⟩ := g
  have g0 : RG t t 1 2 3 4 8 69 := ⟨⟨a1, a2, a3, a4⟩, b1, b2⟩
  have r := f1.2.1 69 (by simp)
  have cI := frI f2 (by decide)
  have cA := frA f2 (by decide)
  have e10 := cI 1 10 (by decide)
  have e12 := cI 1 12 (by decide)
  have e13 := cI 1 13 (by decide)
  have e14 := cI 1 14 (by decide)
  have r0 := r 0
  have r1 := r 1
  have r2 := r 2
  have r3 := r 3
  have d10 := f1.1 1 10 (by simp)
  have d12 := f1.1 1 12 (by simp)
  have hp3 := hp1.2.2
  have hp4 := hp2.2.2.2
  have dq := hp2.2.2.1
  rcases hp3 with h | h
  · rcases hp4 with k | k
    · exact ⟨trivial, by rw [k.2.2, h.2.2]; exact g0⟩
    · exact absurd k.1 h.1
  · rcases hp4 with k | k
    · exact absurd h.1 k.1
    · obtain ⟨hA, hz, hd⟩ := h
      obtain ⟨kA, kz, kd⟩ := k
      rw [show tA t1 69 2 = tI t 1 13 by omega, show tA t1 69 0 = tI t 1 14 by omega, show tA t1 69 3 = tI t 1 12 by omega] at kz
      have ko : ∀ i, ¬ i = 0 → ¬ i = 2 → (i < 29 ∨ 89 ≤ i ∨ (i - 29) % 5 < 3) → tA t2 69 i = tA t1 69 i := dq
      have o1 := ko 1 (by decide) (by decide) (by decide)
      have o3 := ko 3 (by decide) (by decide) (by decide)
      refine ⟨trivial, ⟨by omega, by omega, by omega, by omega⟩, fun i hi => ?_, fun i hi => ?_⟩
      · rw [cA 8 (by decide), f1.2.1 8 (by simp), ko (5 + i) (by omega) (by omega) (by omega), r]
        exact b1 i hi
      · have hj : (i : Int) < tA t 69 1 := by omega
        refine ⟨?_, ?_, ?_⟩
        · rw [cA 2 (by decide), f1.2.1 2 (by simp), ko _ (by omega) (by omega) (by omega), r]; exact (b2 i hj).1
        · rw [cA 3 (by decide), f1.2.1 3 (by simp), ko _ (by omega) (by omega) (by omega), r]; exact (b2 i hj).2.1
        · rw [cA 4 (by decide), f1.2.1 4 (by simp), ko _ (by omega) (by omega) (by omega), r]; exact (b2 i hj).2.2
set_option maxRecDepth 100000 in
theorem br_27 {t t1 t2 : TS} {z1 z2 : Int} (f1 : FrD [(37, 1), (38, 100)] t t1) (f2 : FrD [(68, 9), (75, 100)] t1 t2) (rm : RM t t) (hp1 : (((96 < tI t 37 1 + 12) ∧ z1 = (-1000000003) ∧ t1 = t) ∨ ((tI t 37 1 + 12 ≤ 96) ∧ z1 = tI t 37 1 + 12 ∧ (tI t1 37 1 = tI t 37 1 + 12)))) (hp2 : (((96 < tI t1 68 9 + 12) ∧ z2 = (-1000000003) ∧ t2 = t1) ∨ ((tI t1 68 9 + 12 ≤ 96) ∧ z2 = tI t1 68 9 + 12 ∧ (tI t2 68 9 = tI t1 68 9 + 12)))) : z1 = z2 ∧ RM t2 t2 := by
  obtain ⟨m1, m2, m3, m4⟩ := rm
  have rm0 : RM t t := ⟨m1, m2, m3, m4⟩
  have cI := frI f2 (by decide)
  have cA := frA f2 (by decide)
  have e9 := cI 0 9 (by decide)
  have e8 := cI 0 8 (by decide)
  have e1 := cI 37 1 (by decide)
  have p3 := f1.1 68 3 (by simp)
  have p35 := f1.1 68 35 (by simp)
  have p9 := f1.1 68 9 (by simp)
  have x9 := f1.1 0 9 (by simp)
  have y3 := f2.1 68 3 (by simp)
  have x8 := f1.1 0 8 (by simp)
  have y35 := f2.1 68 35 (by simp)
  rcases hp1 with h | h
  · rcases hp2 with k | k
    · exact ⟨by rw [h.2.1, k.2.1], by rw [k.2.2, h.2.2]; exact rm0⟩
    · exfalso; have q1 := h.1; have q2 := k.1; omega
  · rcases hp2 with k | k
    · exfalso; have q1 := h.1; have q2 := k.1; omega
    · have h2 := h.2.1
      have h3 := h.2.2
      have k2 := k.2.1
      have k3 := k.2.2
      exact ⟨by omega, by omega, by omega, by omega, fun i hi => by rw [cA 44 (by decide), f1.2.1 44 (by simp), f2.2.1 91 (by simp), f1.2.1 91 (by simp)]; exact m4 i (by omega)⟩
set_option maxRecDepth 100000 in
theorem br_28 {t t1 t2 : TS} {u1 z1 z2 : Int} (f1 : FrD [(37, 1)] t t1) (f2 : FrD [(68, 9)] t1 t2) (rm : RM t t) (hp1 : (((¬ (0 ≤ u1 ∧ u1 ≤ tI t 37 1)) ∧ z1 = (-1000000001) ∧ t1 = t) ∨ ((0 ≤ u1 ∧ u1 ≤ tI t 37 1) ∧ z1 = u1 ∧ (t1 = uI t 37 1 u1)))) (hp2 : (((¬ (0 ≤ u1 ∧ u1 ≤ tI t1 68 9)) ∧ z2 = (-1000000001) ∧ t2 = t1) ∨ ((0 ≤ u1 ∧ u1 ≤ tI t1 68 9) ∧ z2 = u1 ∧ (t2 = uI t1 68 9 u1)))) : z1 = z2 ∧ RM t2 t2 := by
  obtain ⟨m1, m2, m3, m4⟩ := rm
  have rm0 : RM t t := ⟨m1, m2, m3, m4⟩
  have cI := frI f2 (by decide)
  have cA := frA f2 (by decide)
  have e9 := cI 0 9 (by decide)
  have e8 := cI 0 8 (by decide)
  have e1 := cI 37 1 (by decide)
  have p3 := f1.1 68 3 (by simp)
  have p35 := f1.1 68 35 (by simp)
  have p9 := f1.1 68 9 (by simp)
  have x9 := f1.1 0 9 (by simp)
  have y3 := f2.1 68 3 (by simp)
  have x8 := f1.1 0 8 (by simp)
  have y35 := f2.1 68 35 (by simp)
  rcases hp1 with h | h
  · rcases hp2 with k | k
    · exact ⟨by rw [h.2.1, k.2.1], by rw [k.2.2, h.2.2]; exact rm0⟩
    · exfalso; have q1 := h.1; have q2 := k.1; omega
  · rcases hp2 with k | k
    · exfalso; have q1 := h.1; have q2 := k.1; omega
    · have h2 := h.2.1
      have h3 : tI t1 37 1 = u1 := by rw [h.2.2, tI_uI]; simp
      have k2 := k.2.1
      have k3 : tI t2 68 9 = u1 := by rw [k.2.2, tI_uI]; simp
      exact ⟨by omega, by omega, by omega, by omega, fun i hi => by rw [cA 44 (by decide), f1.2.1 44 (by simp), f2.2.1 91 (by simp), f1.2.1 91 (by simp)]; exact m4 i (by omega)⟩
set_option maxRecDepth 100000 in
theorem br_29 {t t1 t2 : TS} {z1 z2 : Int} (f1 : FrD [(39, 0), (39, 4), (39, 5), (39, 7), (39, 8), (39, 9), (39, 10), (40, 100), (41, 100), (39, 6), (37, 1), (1, 11), (10, 101), (11, 100), (9, 100)] t t1) (f2 : FrD [(68, 10), (68, 11), (68, 12), (68, 13), (68, 14), (68, 9), (68, 15), (68, 19), (68, 20), (68, 22), (69, 100), (78, 100), (79, 100), (80, 100)] t1 t2) (rm : RM t t) (hp1 : (tI t1 37 1 = 0) ∧ (-2147483648 ≤ z1) ∧ (z1 ≤ 2147483647)) (hp2 : (-2147483648 ≤ z2) ∧ (z2 ≤ 2147483647) ∧ (tI t2 68 9 = 0) ∧ (WF t2 69) ∧ (∀ i, ¬ i = 4 → i < 89 → tA t2 69 i = tA t1 69 i)) : True ∧ RM t2 t2 := by
  obtain ⟨m1, m2, m3, m4⟩ := rm
  have rm0 : RM t t := ⟨m1, m2, m3, m4⟩
  have cI := frI f2 (by decide)
  have cA := frA f2 (by decide)
  have e9 := cI 0 9 (by decide)
  have e8 := cI 0 8 (by decide)
  have e1 := cI 37 1 (by decide)
  have p3 := f1.1 68 3 (by simp)
  have p35 := f1.1 68 35 (by simp)
  have p9 := f1.1 68 9 (by simp)
  have x9 := f1.1 0 9 (by simp)
  have y3 := f2.1 68 3 (by simp)
  have x8 := f1.1 0 8 (by simp)
  have y35 := f2.1 68 35 (by simp)
  have h3 := hp1.1
  have k3 := hp2.2.2.1
  exact ⟨trivial, by omega, by omega, by omega, fun i hi => by rw [cA 44 (by decide), f1.2.1 44 (by simp), f2.2.1 91 (by simp), f1.2.1 91 (by simp)]; exact m4 i (by omega)⟩
set_option maxRecDepth 100000 in
theorem br_32 {t t1 t2 : TS} {u1 u2 u3 z1 z2 : Int} (f1 : FrD [((45 + 2 * u1.toNat), 1), ((45 + 2 * u1.toNat), 2), ((45 + 2 * u1.toNat) + 1, 100)] t t1) (f2 : FrD [(83, 100), (84, 100), (85, 100)] t1 t2) (rs : RS t t) (r83 : ∀ i, tA t1 83 i = tA t 83 i) (r84 : ∀ i, tA t1 84 i = tA t 84 i) (r85 : ∀ i, tA t1 85 i = tA t 85 i) (hp1 : (((¬ (0 ≤ u1 ∧ u1 ≤ 3 ∧ -1 ≤ u2 ∧ u2 ≤ 1)) ∧ z1 = (-1000000001) ∧ t1 = t) ∨ ((0 ≤ u1 ∧ u1 ≤ 3) ∧ (u2 = -1) ∧ z1 = 0 ∧ (tI t1 (45 + 2 * u1.toNat) 1 = u2) ∧ (tI t1 (45 + 2 * u1.toNat) 2 = 0) ∧ (∀ i : Nat, i < 24 → tA t1 ((45 + 2 * u1.toNat) + 1) i = 0)) ∨ ((0 ≤ u1 ∧ u1 ≤ 3) ∧ (0 ≤ u2 ∧ u2 ≤ 1) ∧ (24 < u3) ∧ z1 = (-1000000001) ∧ t1 = t) ∨ ((0 ≤ u1 ∧ u1 ≤ 3) ∧ (0 ≤ u2 ∧ u2 ≤ 1) ∧ (u3 < 0) ∧ z1 = (-1000000014) ∧ t1 = t) ∨ ((0 ≤ u1 ∧ u1 ≤ 3) ∧ (0 ≤ u2 ∧ u2 ≤ 1) ∧ (0 ≤ u3 ∧ u3 ≤ 24) ∧ z1 = u3 ∧ (tI t1 (45 + 2 * u1.toNat) 1 = u2) ∧ (tI t1 (45 + 2 * u1.toNat) 2 = u3) ∧ (∀ i : Nat, i < 24 → tA t1 ((45 + 2 * u1.toNat) + 1) i = 0)))) (hp2 : (((¬ (0 ≤ u1 ∧ u1 ≤ 3 ∧ -1 ≤ u2 ∧ u2 ≤ 1)) ∧ z2 = (-1000000001) ∧ t2 = t1) ∨ ((0 ≤ u1 ∧ u1 ≤ 3) ∧ (u2 = -1) ∧ z2 = 0 ∧ (∀ i, tA t2 83 i = if i = u1.toNat then u2 else tA t1 83 i) ∧ (∀ i, tA t2 84 i = if i = u1.toNat then 0 else tA t1 84 i) ∧ (∀ i : Nat, tA t2 85 i = if 24 * u1 ≤ (i : Int) ∧ (i : Int) < 24 * u1 + 24 then 0 else tA t1 85 i)) ∨ ((0 ≤ u1 ∧ u1 ≤ 3) ∧ (0 ≤ u2 ∧ u2 ≤ 1) ∧ (24 < u3) ∧ z2 = (-1000000001) ∧ t2 = t1) ∨ ((0 ≤ u1 ∧ u1 ≤ 3) ∧ (0 ≤ u2 ∧ u2 ≤ 1) ∧ (u3 < 0) ∧ z2 = (-1000000014) ∧ t2 = t1) ∨ ((0 ≤ u1 ∧ u1 ≤ 3) ∧ (0 ≤ u2 ∧ u2 ≤ 1) ∧ (0 ≤ u3 ∧ u3 ≤ 24) ∧ z2 = u3 ∧ (∀ i, tA t2 83 i = if i = u1.toNat then u2 else tA t1 83 i) ∧ (∀ i, tA t2 84 i = if i = u1.toNat then u3 else tA t1 84 i) ∧ (∀ i : Nat, tA t2 85 i = if 24 * u1 ≤ (i : Int) ∧ (i : Int) < 24 * u1 + 24 then 0 else tA t1 85 i)))) : z1 = z2 ∧ RS t2 t2 := by
  have rs0 := rs
  have cI := frI f2 (by decide)
  have cA := frA f2 (by decide)
  rcases hp1 with h | h | h | h | h
  · rcases hp2 with k | k | k | k | k
    · exact ⟨by rw [h.2.1, k.2.1], by rw [k.2.2, h.2.2]; exact rs0⟩
    all_goals (exfalso; have q1 := h.1; have q2 := k.1; have q3 := k.2.1; omega)
  · rcases hp2 with k | k | k | k | k
    · exfalso; have q1 := h.1; have q2 := k.1; have q3 := h.2.1; omega
    · obtain ⟨hA, hs, hz, h1, h2, h3⟩ := h
      obtain ⟨kA, ks, kz, k83, k84, k85⟩ := k
      refine ⟨by rw [hz, kz], ?_⟩
      have hk : u1.toNat < 4 := by omega
      intro k' hk'
      have x83 := k83 k'
      have x84 := k84 k'
      rw [r83] at x83
      rw [r84] at x84
      by_cases q : k' = u1.toNat
      · subst q
        rw [if_pos rfl] at x83 x84
        refine ⟨by rw [cI _ 1 (by omega), h1, x83], by rw [cI _ 2 (by omega), h2, x84], fun i hi => ?_⟩
        rw [cA _ (by omega), h3 i hi, k85, if_pos (by omega)]
      · rw [if_neg q] at x83 x84
        obtain ⟨s1, s2, s3⟩ := rs k' hk'
        refine ⟨by rw [cI _ 1 (by omega), f1.1 _ 1 (by simp; omega), x83, s1], by rw [cI _ 2 (by omega), f1.1 _ 2 (by simp; omega), x84, s2], fun i hi => ?_⟩
        rw [cA _ (by omega), f1.2.1 _ (by simp; omega), k85, if_neg (by omega), r85, s3 i hi]
    all_goals (exfalso; have q1 := h.2.1; have q2 := k.2.1; omega)
  · rcases hp2 with k | k | k | k | k
    · exfalso; have q1 := h.1; have q2 := k.1; have q3 := h.2.1; omega
    · exfalso; have q1 := h.2.1; have q2 := k.2.1; omega
    · exact ⟨by rw [h.2.2.2.1, k.2.2.2.1], by rw [k.2.2.2.2, h.2.2.2.2]; exact rs0⟩
    all_goals (exfalso; have q1 := h.2.2.1; have q2 := k.2.2.1; omega)
  · rcases hp2 with k | k | k | k | k
    · exfalso; have q1 := h.1; have q2 := k.1; have q3 := h.2.1; omega
    · exfalso; have q1 := h.2.1; have q2 := k.2.1; omega
    · exfalso; have q1 := h.2.2.1; have q2 := k.2.2.1; omega
    · exact ⟨by rw [h.2.2.2.1, k.2.2.2.1], by rw [k.2.2.2.2, h.2.2.2.2]; exact rs0⟩
    · exfalso; have q1 := h.2.2.1; have q2 := k.2.2.1; omega
  · rcases hp2 with k | k | k | k | k
    · exfalso; have q1 := h.1; have q2 := k.1; have q3 := h.2.1; omega
    · exfalso; have q1 := h.2.1; have q2 := k.2.1; omega
    · exfalso; have q1 := h.2.2.1; have q2 := k.2.2.1; omega
    · exfalso; have q1 := h.2.2.1; have q2 := k.2.2.1; omega
    · obtain ⟨hA, hs, hn, hz, h1, h2, h3⟩ := h
      obtain ⟨kA, ks, kn, kz, k83, k84, k85⟩ := k
      refine ⟨by rw [hz, kz], ?_⟩
      have hk : u1.toNat < 4 := by omega
      intro k' hk'
      have x83 := k83 k'
      have x84 := k84 k'
      rw [r83] at x83
      rw [r84] at x84
      by_cases q : k' = u1.toNat
      · subst q
        rw [if_pos rfl] at x83 x84
        refine ⟨by rw [cI _ 1 (by omega), h1, x83], by rw [cI _ 2 (by omega), h2, x84], fun i hi => ?_⟩
        rw [cA _ (by omega), h3 i hi, k85, if_pos (by omega)]
      · rw [if_neg q] at x83 x84
        obtain ⟨s1, s2, s3⟩ := rs k' hk'
        refine ⟨by rw [cI _ 1 (by omega), f1.1 _ 1 (by simp; omega), x83, s1], by rw [cI _ 2 (by omega), f1.1 _ 2 (by simp; omega), x84, s2], fun i hi => ?_⟩
        rw [cA _ (by omega), f1.2.1 _ (by simp; omega), k85, if_neg (by omega), r85, s3 i hi]
set_option maxRecDepth 100000 in
theorem br_33 {t t1 t2 : TS} {u1 u2 u3 z1 z2 : Int} (f1 : FrD [((45 + 2 * u1.toNat) + 1, 100)] t t1) (f2 : FrD [(85, 100)] t1 t2) (rs : RS t t) (ok : OK t) (r83 : ∀ i, tA t1 83 i = tA t 83 i) (r84 : ∀ i, tA t1 84 i = tA t 84 i) (r85 : ∀ i, tA t1 85 i = tA t 85 i) (hp1 : (((¬ (0 ≤ u1 ∧ u1 ≤ 3)) ∧ z1 = (-1000000001) ∧ t1 = t) ∨ ((0 ≤ u1 ∧ u1 ≤ 3) ∧ (tI t (45 + 2 * u1.toNat) 1 = -1) ∧ z1 = (-1000000011) ∧ t1 = t) ∨ ((0 ≤ u1 ∧ u1 ≤ 3) ∧ (¬ tI t (45 + 2 * u1.toNat) 1 = -1) ∧ (¬ (0 ≤ u2 ∧ u2 ≤ tI t (45 + 2 * u1.toNat) 2 - 1)) ∧ z1 = (-1000000013) ∧ t1 = t) ∨ ((0 ≤ u1 ∧ u1 ≤ 3) ∧ (tI t (45 + 2 * u1.toNat) 1 = 0) ∧ (0 ≤ u2 ∧ u2 ≤ tI t (45 + 2 * u1.toNat) 2 - 1) ∧ (u3 = (-1000000005)) ∧ z1 = (-1000000012) ∧ t1 = t) ∨ ((0 ≤ u1 ∧ u1 ≤ 3) ∧ (tI t (45 + 2 * u1.toNat) 1 = 0) ∧ (0 ≤ u2 ∧ u2 ≤ tI t (45 + 2 * u1.toNat) 2 - 1) ∧ (¬ u3 = (-1000000005)) ∧ z1 = 1 ∧ (t1 = uA t ((45 + 2 * u1.toNat) + 1) u2.toNat (shF u3))) ∨ ((0 ≤ u1 ∧ u1 ≤ 3) ∧ (tI t (45 + 2 * u1.toNat) 1 = 1) ∧ (0 ≤ u2 ∧ u2 ≤ tI t (45 + 2 * u1.toNat) 2 - 1) ∧ (¬ u3 = (-1000000005)) ∧ (¬ (-99999 ≤ u3 ∧ u3 ≤ 99999)) ∧ z1 = (-1000000001) ∧ t1 = t) ∨ ((0 ≤ u1 ∧ u1 ≤ 3) ∧ (tI t (45 + 2 * u1.toNat) 1 = 1) ∧ (0 ≤ u2 ∧ u2 ≤ tI t (45 + 2 * u1.toNat) 2 - 1) ∧ (u3 = (-1000000005) ∨ (-99999 ≤ u3 ∧ u3 ≤ 99999)) ∧ z1 = 1 ∧ (t1 = uA t ((45 + 2 * u1.toNat) + 1) u2.toNat u3)))) (hp2 : (((¬ (0 ≤ u1 ∧ u1 ≤ 3)) ∧ z2 = (-1000000001) ∧ t2 = t1) ∨ ((0 ≤ u1 ∧ u1 ≤ 3) ∧ (tA t1 83 u1.toNat = -1) ∧ z2 = (-1000000011) ∧ t2 = t1) ∨ ((0 ≤ u1 ∧ u1 ≤ 3) ∧ (¬ tA t1 83 u1.toNat = -1) ∧ (¬ (0 ≤ u2 ∧ u2 ≤ tA t1 84 u1.toNat - 1)) ∧ z2 = (-1000000013) ∧ t2 = t1) ∨ ((0 ≤ u1 ∧ u1 ≤ 3) ∧ (tA t1 83 u1.toNat = 0) ∧ (0 ≤ u2 ∧ u2 ≤ tA t1 84 u1.toNat - 1) ∧ (u3 = (-1000000005)) ∧ z2 = (-1000000012) ∧ t2 = t1) ∨ ((0 ≤ u1 ∧ u1 ≤ 3) ∧ (tA t1 83 u1.toNat = 0) ∧ (0 ≤ u2 ∧ u2 ≤ tA t1 84 u1.toNat - 1) ∧ (¬ u3 = (-1000000005)) ∧ z2 = 1 ∧ (t2 = uA t1 85 (24 * u1 + u2).toNat (shF u3))) ∨ ((0 ≤ u1 ∧ u1 ≤ 3) ∧ (tA t1 83 u1.toNat = 1) ∧ (0 ≤ u2 ∧ u2 ≤ tA t1 84 u1.toNat - 1) ∧ (¬ u3 = (-1000000005)) ∧ (¬ (-99999 ≤ u3 ∧ u3 ≤ 99999)) ∧ z2 = (-1000000001) ∧ t2 = t1) ∨ ((0 ≤ u1 ∧ u1 ≤ 3) ∧ (tA t1 83 u1.toNat = 1) ∧ (0 ≤ u2 ∧ u2 ≤ tA t1 84 u1.toNat - 1) ∧ (u3 = (-1000000005) ∨ (-99999 ≤ u3 ∧ u3 ≤ 99999)) ∧ z2 = 1 ∧ (t2 = uA t1 85 (24 * u1 + u2).toNat u3)))) : z1 = z2 ∧ RS t2 t2 := by
  have rs0 := rs
  have cI := frI f2 (by decide)
  have cA := frA f2 (by decide)
  by_cases hu : 0 ≤ u1 ∧ u1 ≤ 3
  · obtain ⟨s1, s2, s3⟩ := rs u1.toNat (by omega)
    have x83 := r83 u1.toNat
    have x84 := r84 u1.toNat
    have b84 : 0 ≤ tA t 84 u1.toNat ∧ tA t 84 u1.toNat ≤ 24 := ok.a (ae_84 _)
    have b83 : -1 ≤ tA t 83 u1.toNat ∧ tA t 83 u1.toNat ≤ 1 := ok.a (ae_83 _)
    rcases hp1 with h | h | h | h | h | h | h
    · rcases hp2 with k | k | k | k | k | k | k
      · exact ⟨by rw [h.2.1, k.2.1], by rw [k.2.2, h.2.2]; exact rs0⟩
      · exfalso; have q0 := h.1; have w1 := k.2.1; omega
      · exfalso; have q0 := h.1; have w1 := k.2.1; have w2 := k.2.2.1; omega
      · exfalso; have q0 := h.1; have w1 := k.2.1; have w2 := k.2.2.1; have w3 := k.2.2.2.1; omega
      · exfalso; have q0 := h.1; have w1 := k.2.1; have w2 := k.2.2.1; have w3 := k.2.2.2.1; omega
      · exfalso; have q0 := h.1; have w1 := k.2.1; have w2 := k.2.2.1; have w3 := k.2.2.2.1; have w4 := k.2.2.2.2.1; omega
      · exfalso; have q0 := h.1; have w1 := k.2.1; have w2 := k.2.2.1; have w3 := k.2.2.2.1; omega
    · rcases hp2 with k | k | k | k | k | k | k
      · exfalso; have q1 := h.2.1; have w0 := k.1; omega
      · exact ⟨by rw [h.2.2.1, k.2.2.1], by rw [k.2.2.2, h.2.2.2]; exact rs0⟩
      · exfalso; have q1 := h.2.1; have w1 := k.2.1; have w2 := k.2.2.1; omega
      · exfalso; have q1 := h.2.1; have w1 := k.2.1; have w2 := k.2.2.1; have w3 := k.2.2.2.1; omega
      · exfalso; have q1 := h.2.1; have w1 := k.2.1; have w2 := k.2.2.1; have w3 := k.2.2.2.1; omega
      · exfalso; have q1 := h.2.1; have w1 := k.2.1; have w2 := k.2.2.1; have w3 := k.2.2.2.1; have w4 := k.2.2.2.2.1; omega
      · exfalso; have q1 := h.2.1; have w1 := k.2.1; have w2 := k.2.2.1; have w3 := k.2.2.2.1; omega
    · rcases hp2 with k | k | k | k | k | k | k
      · exfalso; have q1 := h.2.1; have q2 := h.2.2.1; have w0 := k.1; omega
      · exfalso; have q1 := h.2.1; have q2 := h.2.2.1; have w1 := k.2.1; omega
      · exact ⟨by rw [h.2.2.2.1, k.2.2.2.1], by rw [k.2.2.2.2, h.2.2.2.2]; exact rs0⟩
      · exfalso; have q1 := h.2.1; have q2 := h.2.2.1; have w1 := k.2.1; have w2 := k.2.2.1; have w3 := k.2.2.2.1; omega
      · exfalso; have q1 := h.2.1; have q2 := h.2.2.1; have w1 := k.2.1; have w2 := k.2.2.1; have w3 := k.2.2.2.1; omega
      · exfalso; have q1 := h.2.1; have q2 := h.2.2.1; have w1 := k.2.1; have w2 := k.2.2.1; have w3 := k.2.2.2.1; have w4 := k.2.2.2.2.1; omega
      · exfalso; have q1 := h.2.1; have q2 := h.2.2.1; have w1 := k.2.1; have w2 := k.2.2.1; have w3 := k.2.2.2.1; omega
    · rcases hp2 with k | k | k | k | k | k | k
      · exfalso; have q1 := h.2.1; have q2 := h.2.2.1; have q3 := h.2.2.2.1; have w0 := k.1; omega
      · exfalso; have q1 := h.2.1; have q2 := h.2.2.1; have q3 := h.2.2.2.1; have w1 := k.2.1; omega
      · exfalso; have q1 := h.2.1; have q2 := h.2.2.1; have q3 := h.2.2.2.1; have w1 := k.2.1; have w2 := k.2.2.1; omega
      · exact ⟨by rw [h.2.2.2.2.1, k.2.2.2.2.1], by rw [k.2.2.2.2.2, h.2.2.2.2.2]; exact rs0⟩
      · exfalso; have q1 := h.2.1; have q2 := h.2.2.1; have q3 := h.2.2.2.1; have w1 := k.2.1; have w2 := k.2.2.1; have w3 := k.2.2.2.1; omega
      · exfalso; have q1 := h.2.1; have q2 := h.2.2.1; have q3 := h.2.2.2.1; have w1 := k.2.1; have w2 := k.2.2.1; have w3 := k.2.2.2.1; have w4 := k.2.2.2.2.1; omega
      · exfalso; have q1 := h.2.1; have q2 := h.2.2.1; have q3 := h.2.2.2.1; have w1 := k.2.1; have w2 := k.2.2.1; have w3 := k.2.2.2.1; omega
    · rcases hp2 with k | k | k | k | k | k | k
      · exfalso; have q1 := h.2.1; have q2 := h.2.2.1; have q3 := h.2.2.2.1; have w0 := k.1; omega
      · exfalso; have q1 := h.2.1; have q2 := h.2.2.1; have q3 := h.2.2.2.1; have w1 := k.2.1; omega
      · exfalso; have q1 := h.2.1; have q2 := h.2.2.1; have q3 := h.2.2.2.1; have w1 := k.2.1; have w2 := k.2.2.1; omega
      · exfalso; have q1 := h.2.1; have q2 := h.2.2.1; have q3 := h.2.2.2.1; have w1 := k.2.1; have w2 := k.2.2.1; have w3 := k.2.2.2.1; omega
      · obtain ⟨hA, hB, hC, hD, hz, ht⟩ := h
        obtain ⟨kA, kB, kC, kD, kz, kt⟩ := k
        have ko : ∀ i, tA t2 85 i = if i = 24 * u1.toNat + u2.toNat then (shF u3) else tA t1 85 i := by
          intro i
          rw [kt, tA_uA, show (24 * u1 + u2).toNat = 24 * u1.toNat + u2.toNat by omega]
          simp
        have ho : ∀ i, tA t1 ((45 + 2 * u1.toNat) + 1) i = if i = u2.toNat then (shF u3) else tA t ((45 + 2 * u1.toNat) + 1) i := by
          intro i
          rw [ht, tA_uA]
          simp
        refine ⟨by rw [hz, kz], fun k' hk' => ?_⟩
        obtain ⟨v1, v2, v3⟩ := rs k' hk'
        have y83 := f2.2.1 83 (by simp) k'
        have y84 := f2.2.1 84 (by simp) k'
        refine ⟨by rw [cI _ 1 (by omega), f1.1 _ 1 (by simp), y83, r83, v1], by rw [cI _ 2 (by omega), f1.1 _ 2 (by simp), y84, r84, v2], fun i hi => ?_⟩
        rw [cA _ (by omega), ko]
        by_cases q : k' = u1.toNat
        · subst q
          rw [ho]
          by_cases q2 : i = u2.toNat
          · rw [if_pos q2, if_pos (by omega)]
          · rw [if_neg q2, if_neg (by omega), r85, v3 i hi]
        · rw [if_neg (by omega), f1.2.1 _ (by simp; omega), r85, v3 i hi]
      · exfalso; have q1 := h.2.1; have q2 := h.2.2.1; have q3 := h.2.2.2.1; have w1 := k.2.1; have w2 := k.2.2.1; have w3 := k.2.2.2.1; have w4 := k.2.2.2.2.1; omega
      · exfalso; have q1 := h.2.1; have q2 := h.2.2.1; have q3 := h.2.2.2.1; have w1 := k.2.1; have w2 := k.2.2.1; have w3 := k.2.2.2.1; omega
    · rcases hp2 with k | k | k | k | k | k | k
      · exfalso; have q1 := h.2.1; have q2 := h.2.2.1; have q3 := h.2.2.2.1; have q4 := h.2.2.2.2.1; have w0 := k.1; omega
      · exfalso; have q1 := h.2.1; have q2 := h.2.2.1; have q3 := h.2.2.2.1; have q4 := h.2.2.2.2.1; have w1 := k.2.1; omega
      · exfalso; have q1 := h.2.1; have q2 := h.2.2.1; have q3 := h.2.2.2.1; have q4 := h.2.2.2.2.1; have w1 := k.2.1; have w2 := k.2.2.1; omega
      · exfalso; have q1 := h.2.1; have q2 := h.2.2.1; have q3 := h.2.2.2.1; have q4 := h.2.2.2.2.1; have w1 := k.2.1; have w2 := k.2.2.1; have w3 := k.2.2.2.1; omega
      · exfalso; have q1 := h.2.1; have q2 := h.2.2.1; have q3 := h.2.2.2.1; have q4 := h.2.2.2.2.1; have w1 := k.2.1; have w2 := k.2.2.1; have w3 := k.2.2.2.1; omega
      · exact ⟨by rw [h.2.2.2.2.2.1, k.2.2.2.2.2.1], by rw [k.2.2.2.2.2.2, h.2.2.2.2.2.2]; exact rs0⟩
      · exfalso; have q1 := h.2.1; have q2 := h.2.2.1; have q3 := h.2.2.2.1; have q4 := h.2.2.2.2.1; have w1 := k.2.1; have w2 := k.2.2.1; have w3 := k.2.2.2.1; omega
    · rcases hp2 with k | k | k | k | k | k | k
      · exfalso; have q1 := h.2.1; have q2 := h.2.2.1; have q3 := h.2.2.2.1; have w0 := k.1; omega
      · exfalso; have q1 := h.2.1; have q2 := h.2.2.1; have q3 := h.2.2.2.1; have w1 := k.2.1; omega
      · exfalso; have q1 := h.2.1; have q2 := h.2.2.1; have q3 := h.2.2.2.1; have w1 := k.2.1; have w2 := k.2.2.1; omega
      · exfalso; have q1 := h.2.1; have q2 := h.2.2.1; have q3 := h.2.2.2.1; have w1 := k.2.1; have w2 := k.2.2.1; have w3 := k.2.2.2.1; omega
      · exfalso; have q1 := h.2.1; have q2 := h.2.2.1; have q3 := h.2.2.2.1; have w1 := k.2.1; have w2 := k.2.2.1; have w3 := k.2.2.2.1; omega
      · exfalso; have q1 := h.2.1; have q2 := h.2.2.1; have q3 := h.2.2.2.1; have w1 := k.2.1; have w2 := k.2.2.1; have w3 := k.2.2.2.1; have w4 := k.2.2.2.2.1; omega
      · obtain ⟨hA, hB, hC, hD, hz, ht⟩ := h
        obtain ⟨kA, kB, kC, kD, kz, kt⟩ := k
        have ko : ∀ i, tA t2 85 i = if i = 24 * u1.toNat + u2.toNat then u3 else tA t1 85 i := by
          intro i
          rw [kt, tA_uA, show (24 * u1 + u2).toNat = 24 * u1.toNat + u2.toNat by omega]
          simp
        have ho : ∀ i, tA t1 ((45 + 2 * u1.toNat) + 1) i = if i = u2.toNat then u3 else tA t ((45 + 2 * u1.toNat) + 1) i := by
          intro i
          rw [ht, tA_uA]
          simp
        refine ⟨by rw [hz, kz], fun k' hk' => ?_⟩
        obtain ⟨v1, v2, v3⟩ := rs k' hk'
        have y83 := f2.2.1 83 (by simp) k'
        have y84 := f2.2.1 84 (by simp) k'
        refine ⟨by rw [cI _ 1 (by omega), f1.1 _ 1 (by simp), y83, r83, v1], by rw [cI _ 2 (by omega), f1.1 _ 2 (by simp), y84, r84, v2], fun i hi => ?_⟩
        rw [cA _ (by omega), ko]
        by_cases q : k' = u1.toNat
        · subst q
          rw [ho]
          by_cases q2 : i = u2.toNat
          · rw [if_pos q2, if_pos (by omega)]
          · rw [if_neg q2, if_neg (by omega), r85, v3 i hi]
        · rw [if_neg (by omega), f1.2.1 _ (by simp; omega), r85, v3 i hi]
  · rcases hp1 with h | h | h | h | h | h | h
    · rcases hp2 with k | k | k | k | k | k | k
      · exact ⟨by rw [h.2.1, k.2.1], by rw [k.2.2, h.2.2]; exact rs0⟩
      all_goals exact absurd k.1 hu
    all_goals exact absurd h.1 hu
set_option maxRecDepth 100000 in
theorem br_34 {t t1 t2 : TS} {u1 z1 z2 : Int} (f1 : FrD [(8, 100)] t t1) (f2 : FrD [(69, 100)] t1 t2) (g : RG t t 1 2 3 4 8 69) (rs : RS t t) (ok : OK t) (hp1 : (((¬ (0 ≤ u1 ∧ u1 ≤ 3)) ∧ z1 = (-1000000001) ∧ t1 = t) ∨ ((0 ≤ u1 ∧ u1 ≤ 3) ∧ (tI t (45 + 2 * u1.toNat) 1 = -1) ∧ z1 = (-1000000011) ∧ t1 = t) ∨ ((0 ≤ u1 ∧ u1 ≤ 3) ∧ (¬ tI t (45 + 2 * u1.toNat) 1 = -1) ∧ z1 = prC (tI t (45 + 2 * u1.toNat) 2) (tA t ((45 + 2 * u1.toNat) + 1)) (tA t 8) 24 ∧ (∀ m : Nat, m < 24 → tA t1 8 m = prF (tI t (45 + 2 * u1.toNat) 2) (tA t ((45 + 2 * u1.toNat) + 1)) (tA t 8) m)))) (hp2 : (((¬ (0 ≤ u1 ∧ u1 ≤ 3)) ∧ z2 = (-1000000001) ∧ t2 = t1) ∨ ((0 ≤ u1 ∧ u1 ≤ 3) ∧ (tA t1 83 u1.toNat = -1) ∧ z2 = (-1000000011) ∧ t2 = t1) ∨ ((0 ≤ u1 ∧ u1 ≤ 3) ∧ (¬ tA t1 83 u1.toNat = -1) ∧ z2 = prC (tA t1 84 u1.toNat) (fun m => tA t1 85 (24 * u1.toNat + m)) (fun m => tA t1 69 (5 + m)) (tA t1 84 u1.toNat).toNat ∧ (∀ m : Nat, m < 24 → tA t2 69 (5 + m) = prF (tA t1 84 u1.toNat) (fun m => tA t1 85 (24 * u1.toNat + m)) (fun m => tA t1 69 (5 + m)) m) ∧ (∀ i, (i < 5 ∨ 29 ≤ i) → tA t2 69 i = tA t1 69 i)))) : z1 = z2 ∧ RG t2 t2 1 2 3 4 8 69 := by
  obtain ⟨⟨a1, a2, a3, a4⟩, b1, b2⟩ := g
  have g0 : RG t t 1 2 3 4 8 69 := ⟨⟨a1, a2, a3, a4⟩, b1, b2⟩
  have r := f1.2.1 69 (by simp)
  have cI := frI f2 (by decide)
  have cA := frA f2 (by decide)
  have e10 := cI 1 10 (by decide)
  have e12 := cI 1 12 (by decide)
  have e13 := cI 1 13 (by decide)
  have e14 := cI 1 14 (by decide)
  have r0 := r 0
  have r1 := r 1
  have r2 := r 2
  have r3 := r 3
  have d10 := f1.1 1 10 (by simp)
  have d12 := f1.1 1 12 (by simp)
  have d13 := f1.1 1 13 (by simp)
  have d14 := f1.1 1 14 (by simp)
  have r83 := f1.2.1 83 (by simp)
  have r84 := f1.2.1 84 (by simp)
  have r85 := f1.2.1 85 (by simp)
  rcases hp1 with h | h | h
  · rcases hp2 with k | k | k
    · exact ⟨by rw [h.2.1, k.2.1], by rw [k.2.2, h.2.2]; exact g0⟩
    · exact absurd k.1 h.1
    · exact absurd k.1 h.1
  · obtain ⟨s1, s2, s3⟩ := rs u1.toNat (by have := h.1; omega)
    have q := r83 u1.toNat
    rcases hp2 with k | k | k
    · exact absurd h.1 k.1
    · exact ⟨by rw [h.2.2.1, k.2.2.1], by rw [k.2.2.2, h.2.2.2]; exact g0⟩
    · exfalso; have q1 := h.2.1; have q2 := k.2.1; omega
  · obtain ⟨s1, s2, s3⟩ := rs u1.toNat (by have := h.1; omega)
    have q := r83 u1.toNat
    rcases hp2 with k | k | k
    · exact absurd h.1 k.1
    · exfalso; have q1 := h.2.1; have q2 := k.2.1; omega
    · obtain ⟨hA, hm, hz, hw⟩ := h
      obtain ⟨kA, km, kz, kw, ko⟩ := k
      have o0 := ko 0 (by decide)
      have o1 := ko 1 (by decide)
      have o2 := ko 2 (by decide)
      have o3 := ko 3 (by decide)
      have sz : 0 ≤ tI t (45 + 2 * u1.toNat) 2 ∧ tI t (45 + 2 * u1.toNat) 2 ≤ 24 := by rw [s2]; exact ok.a (ae_84 _)
      have ez : tA t1 84 u1.toNat = tI t (45 + 2 * u1.toNat) 2 := by rw [r84, s2]
      have hp : ∀ m : Nat, m < 24 → prF (tA t1 84 u1.toNat) (fun m => tA t1 85 (24 * u1.toNat + m)) (fun m => tA t1 69 (5 + m)) m = prF (tI t (45 + 2 * u1.toNat) 2) (tA t ((45 + 2 * u1.toNat) + 1)) (tA t 8) m := by
        intro m hm
        unfold prF
        rw [ez]
        simp only []
        rw [r85, r, s3 m hm, b1 m hm]
      have hc : ∀ m : Nat, m ≤ 24 → prC (tA t1 84 u1.toNat) (fun m => tA t1 85 (24 * u1.toNat + m)) (fun m => tA t1 69 (5 + m)) m = prC (tI t (45 + 2 * u1.toNat) 2) (tA t ((45 + 2 * u1.toNat) + 1)) (tA t 8) m := by
        intro m hm
        induction m with
        | zero => rfl
        | succ m ih =>
          simp only [prC]
          have em : tA t1 69 (5 + m) = tA t 8 m := by rw [r, b1 m (by omega)]
          rw [ih (by omega), hp m (by omega)]
          simp only [em]
      have hq : prC (tI t (45 + 2 * u1.toNat) 2) (tA t ((45 + 2 * u1.toNat) + 1)) (tA t 8) 24 = prC (tI t (45 + 2 * u1.toNat) 2) (tA t ((45 + 2 * u1.toNat) + 1)) (tA t 8) (tI t (45 + 2 * u1.toNat) 2).toNat := prC_cut sz
      rw [ez] at kz hc hp
      rw [hc _ (by omega)] at kz
      refine ⟨by rw [hz, kz, hq], ⟨by omega, by omega, by omega, by omega⟩, fun i hi => ?_, fun i hi => ?_⟩
      · rw [cA 8 (by decide), hw i hi, kw i hi, ez, hp i hi]
      · have hj : (i : Int) < tA t 69 1 := by omega
        refine ⟨?_, ?_, ?_⟩
        · rw [cA 2 (by decide), f1.2.1 2 (by simp), ko _ (by omega), r]; exact (b2 i hj).1
        · rw [cA 3 (by decide), f1.2.1 3 (by simp), ko _ (by omega), r]; exact (b2 i hj).2.1
        · rw [cA 4 (by decide), f1.2.1 4 (by simp), ko _ (by omega), r]; exact (b2 i hj).2.2
set_option maxRecDepth 100000 in
theorem br_36 {t t1 t2 : TS} {u1 u2 u3 u4 u5 z1 z2 : Int} (f1 : FrD [((45 + 2 * u3.toNat) + 1, 100)] t t1) (f2 : FrD [(90, 100), (85, 100)] t1 t2) (rs : RS t t) (ok : OK t) (r83 : ∀ i, tA t1 83 i = tA t 83 i) (r84 : ∀ i, tA t1 84 i = tA t 84 i) (r85 : ∀ i, tA t1 85 i = tA t 85 i) (hp1 : (((¬ (0 ≤ u1 ∧ u1 ≤ 3 ∧ 0 ≤ u3 ∧ u3 ≤ 3)) ∧ z1 = (-1000000001) ∧ t1 = t) ∨ ((0 ≤ u1 ∧ u1 ≤ 3 ∧ 0 ≤ u3 ∧ u3 ≤ 3) ∧ (tI t (45 + 2 * u1.toNat) 1 = -1 ∨ tI t (45 + 2 * u3.toNat) 1 = -1) ∧ z1 = (-1000000011) ∧ t1 = t) ∨ ((0 ≤ u1 ∧ u1 ≤ 3 ∧ 0 ≤ u3 ∧ u3 ≤ 3) ∧ (¬ tI t (45 + 2 * u1.toNat) 1 = -1 ∧ ¬ tI t (45 + 2 * u3.toNat) 1 = -1) ∧ (¬ tI t (45 + 2 * u1.toNat) 1 = tI t (45 + 2 * u3.toNat) 1) ∧ z1 = (-1000000012) ∧ t1 = t) ∨ ((0 ≤ u1 ∧ u1 ≤ 3 ∧ 0 ≤ u3 ∧ u3 ≤ 3) ∧ (¬ tI t (45 + 2 * u1.toNat) 1 = -1 ∧ ¬ tI t (45 + 2 * u3.toNat) 1 = -1) ∧ (tI t (45 + 2 * u1.toNat) 1 = tI t (45 + 2 * u3.toNat) 1) ∧ (¬ (0 ≤ u2 ∧ u2 ≤ tI t (45 + 2 * u1.toNat) 2 ∧ 0 ≤ u5 ∧ u5 ≤ tI t (45 + 2 * u1.toNat) 2 - u2 ∧ 0 ≤ u4 ∧ u4 ≤ tI t (45 + 2 * u3.toNat) 2 ∧ u5 ≤ tI t (45 + 2 * u3.toNat) 2 - u4)) ∧ z1 = (-1000000013) ∧ t1 = t) ∨ ((0 ≤ u1 ∧ u1 ≤ 3 ∧ 0 ≤ u3 ∧ u3 ≤ 3) ∧ (¬ tI t (45 + 2 * u1.toNat) 1 = -1 ∧ ¬ tI t (45 + 2 * u3.toNat) 1 = -1) ∧ (tI t (45 + 2 * u1.toNat) 1 = tI t (45 + 2 * u3.toNat) 1) ∧ (0 ≤ u2 ∧ u2 ≤ tI t (45 + 2 * u1.toNat) 2 ∧ 0 ≤ u5 ∧ u5 ≤ tI t (45 + 2 * u1.toNat) 2 - u2 ∧ 0 ≤ u4 ∧ u4 ≤ tI t (45 + 2 * u3.toNat) 2 ∧ u5 ≤ tI t (45 + 2 * u3.toNat) 2 - u4) ∧ z1 = u5 ∧ (t1 = uR t ((45 + 2 * u3.toNat) + 1) (fun i => if u4.toNat ≤ i ∧ i < u4.toNat + u5.toNat then tA t ((45 + 2 * u1.toNat) + 1) (u2.toNat + (i - u4.toNat)) else tA t ((45 + 2 * u3.toNat) + 1) i))))) (hp2 : (((¬ (0 ≤ u1 ∧ u1 ≤ 3 ∧ 0 ≤ u3 ∧ u3 ≤ 3)) ∧ z2 = (-1000000001) ∧ t2 = t1) ∨ ((0 ≤ u1 ∧ u1 ≤ 3 ∧ 0 ≤ u3 ∧ u3 ≤ 3) ∧ (tA t1 83 u1.toNat = -1 ∨ tA t1 83 u3.toNat = -1) ∧ z2 = (-1000000011) ∧ t2 = t1) ∨ ((0 ≤ u1 ∧ u1 ≤ 3 ∧ 0 ≤ u3 ∧ u3 ≤ 3) ∧ (¬ tA t1 83 u1.toNat = -1 ∧ ¬ tA t1 83 u3.toNat = -1) ∧ (¬ tA t1 83 u1.toNat = tA t1 83 u3.toNat) ∧ z2 = (-1000000012) ∧ t2 = t1) ∨ ((0 ≤ u1 ∧ u1 ≤ 3 ∧ 0 ≤ u3 ∧ u3 ≤ 3) ∧ (¬ tA t1 83 u1.toNat = -1 ∧ ¬ tA t1 83 u3.toNat = -1) ∧ (tA t1 83 u1.toNat = tA t1 83 u3.toNat) ∧ (¬ (0 ≤ u2 ∧ u2 ≤ tA t1 84 u1.toNat ∧ 0 ≤ u5 ∧ u5 ≤ tA t1 84 u1.toNat - u2 ∧ 0 ≤ u4 ∧ u4 ≤ tA t1 84 u3.toNat ∧ u5 ≤ tA t1 84 u3.toNat - u4)) ∧ z2 = (-1000000013) ∧ t2 = t1) ∨ ((0 ≤ u1 ∧ u1 ≤ 3 ∧ 0 ≤ u3 ∧ u3 ≤ 3) ∧ (¬ tA t1 83 u1.toNat = -1 ∧ ¬ tA t1 83 u3.toNat = -1) ∧ (tA t1 83 u1.toNat = tA t1 83 u3.toNat) ∧ (0 ≤ u2 ∧ u2 ≤ tA t1 84 u1.toNat ∧ 0 ≤ u5 ∧ u5 ≤ tA t1 84 u1.toNat - u2 ∧ 0 ≤ u4 ∧ u4 ≤ tA t1 84 u3.toNat ∧ u5 ≤ tA t1 84 u3.toNat - u4) ∧ z2 = u5 ∧ (∀ i : Nat, tA t2 85 i = if 24 * u3 + u4 ≤ (i : Int) ∧ (i : Int) < 24 * u3 + u4 + u5 then tA t1 85 ((24 * u1 + u2).toNat + (i - (24 * u3 + u4).toNat)) else tA t1 85 i)))) : z1 = z2 ∧ RS t2 t2 := by
  have rs0 := rs
  have cI := frI f2 (by decide)
  have cA := frA f2 (by decide)
  by_cases hu : 0 ≤ u1 ∧ u1 ≤ 3 ∧ 0 ≤ u3 ∧ u3 ≤ 3
  · obtain ⟨s1, s2, s3⟩ := rs u1.toNat (by omega)
    obtain ⟨o1, o2, o3⟩ := rs u3.toNat (by omega)
    have x83 := r83 u1.toNat
    have x84 := r84 u1.toNat
    have y83 := r83 u3.toNat
    have y84 := r84 u3.toNat
    have b84 : 0 ≤ tA t 84 u1.toNat ∧ tA t 84 u1.toNat ≤ 24 := ok.a (ae_84 _)
    have d84 : 0 ≤ tA t 84 u3.toNat ∧ tA t 84 u3.toNat ≤ 24 := ok.a (ae_84 _)
    rcases hp1 with h | h | h | h | h
    · exact absurd hu h.1
    · rcases hp2 with k | k | k | k | k
      · exact absurd hu k.1
      · exact ⟨by rw [h.2.2.1, k.2.2.1], by rw [k.2.2.2, h.2.2.2]; exact rs0⟩
      all_goals (exfalso; have q1 := h.2.1; have q2 := k.2.1; omega)
    · rcases hp2 with k | k | k | k | k
      · exact absurd hu k.1
      · exfalso; have q1 := h.2.1; have q2 := k.2.1; omega
      · exact ⟨by rw [h.2.2.2.1, k.2.2.2.1], by rw [k.2.2.2.2, h.2.2.2.2]; exact rs0⟩
      all_goals (exfalso; have q1 := h.2.2.1; have q2 := k.2.2.1; omega)
    · rcases hp2 with k | k | k | k | k
      · exact absurd hu k.1
      · exfalso; have q1 := h.2.1; have q2 := k.2.1; omega
      · exfalso; have q1 := h.2.2.1; have q2 := k.2.2.1; omega
      · exact ⟨by rw [h.2.2.2.2.1, k.2.2.2.2.1], by rw [k.2.2.2.2.2, h.2.2.2.2.2]; exact rs0⟩
      · exfalso; have q1 := h.2.2.2.1; have q2 := k.2.2.2.1; omega
    · rcases hp2 with k | k | k | k | k
      · exact absurd hu k.1
      · exfalso; have q1 := h.2.1; have q2 := k.2.1; omega
      · exfalso; have q1 := h.2.2.1; have q2 := k.2.2.1; omega
      · exfalso; have q1 := h.2.2.2.1; have q2 := k.2.2.2.1; omega
      · obtain ⟨hA, hB, hC, hD, hz, ht⟩ := h
        obtain ⟨kA, kB, kC, kD, kz, kt⟩ := k
        have ho : ∀ i, tA t1 ((45 + 2 * u3.toNat) + 1) i = if u4.toNat ≤ i ∧ i < u4.toNat + u5.toNat then tA t ((45 + 2 * u1.toNat) + 1) (u2.toNat + (i - u4.toNat)) else tA t ((45 + 2 * u3.toNat) + 1) i := by
          intro i
          rw [ht, tA_uR, if_pos rfl]
        refine ⟨by rw [hz, kz], fun k' hk' => ?_⟩
        obtain ⟨v1, v2, v3⟩ := rs k' hk'
        have z83 := f2.2.1 83 (by simp) k'
        have z84 := f2.2.1 84 (by simp) k'
        refine ⟨by rw [cI _ 1 (by omega), f1.1 _ 1 (by simp), z83, r83, v1], by rw [cI _ 2 (by omega), f1.1 _ 2 (by simp), z84, r84, v2], fun i hi => ?_⟩
        rw [cA _ (by omega), kt]
        by_cases q : k' = u3.toNat
        · subst q
          rw [ho]
          by_cases q2 : u4.toNat ≤ i ∧ i < u4.toNat + u5.toNat
          · rw [if_pos q2, if_pos (by omega), r85, s3 _ (by omega)]
            congr 1
            omega
          · rw [if_neg q2, if_neg (by omega), r85, v3 i hi]
        · rw [if_neg (by omega), f1.2.1 _ (by simp; omega), r85, v3 i hi]
  · rcases hp1 with h | h | h | h | h
    · rcases hp2 with k | k | k | k | k
      · exact ⟨by rw [h.2.1, k.2.1], by rw [k.2.2, h.2.2]; exact rs0⟩
      all_goals exact absurd k.1 hu
    all_goals exact absurd h.1 hu
set_option maxRecDepth 100000 in
theorem br_37 {t t1 t2 : TS} {u1 u2 u3 z1 z2 : Int} (f1 : FrD [((53 + 3 * u1.toNat), 1), ((53 + 3 * u1.toNat), 2), ((53 + 3 * u1.toNat), 3), ((53 + 3 * u1.toNat), 4), ((53 + 3 * u1.toNat), 5), ((53 + 3 * u1.toNat) + 1, 1), ((53 + 3 * u1.toNat) + 1, 2), ((53 + 3 * u1.toNat) + 1 + 1, 100)] t t1) (f2 : FrD [(86, 100), (87, 100), (88, 100), (89, 100)] t1 t2) (g : RG t t 1 2 3 4 8 69) (rs : RS t t) (rl : RW t t) (r69 : ∀ i, tA t1 69 i = tA t 69 i) (r83 : ∀ i, tA t1 83 i = tA t 83 i) (r84 : ∀ i, tA t1 84 i = tA t 84 i) (r85 : ∀ i, tA t1 85 i = tA t 85 i) (r86 : ∀ i, tA t1 86 i = tA t 86 i) (r87 : ∀ i, tA t1 87 i = tA t 87 i) (r88 : ∀ i, tA t1 88 i = tA t 88 i) (r89 : ∀ i, tA t1 89 i = tA t 89 i) (hp1 : (((¬ (0 ≤ u1 ∧ u1 ≤ 4 ∧ 0 ≤ u2 ∧ u2 ≤ 3) ∨ (u2 = 1 ∧ ¬ (0 ≤ u3 ∧ u3 ≤ tI t 1 10 - 1)) ∨ (u2 = 2 ∧ ¬ (0 ≤ u3 ∧ u3 ≤ 3))) ∧ z1 = (-1000000001) ∧ t1 = t) ∨ ((0 ≤ u1 ∧ u1 ≤ 4) ∧ (u2 = 2) ∧ (0 ≤ u3 ∧ u3 ≤ 3) ∧ (tI t (45 + 2 * u3.toNat) 1 = -1) ∧ z1 = (-1000000011) ∧ t1 = t) ∨ ((0 ≤ u1 ∧ u1 ≤ 4) ∧ (u2 = 0) ∧ z1 = tI t (53 + 3 * u1.toNat) 1 ∧ (tI t1 (53 + 3 * u1.toNat) 1 = 0)) ∨ ((0 ≤ u1 ∧ u1 ≤ 4) ∧ (u2 = 1) ∧ (0 ≤ u3 ∧ u3 ≤ tI t 1 10 - 1) ∧ z1 = tI t (53 + 3 * u1.toNat) 1 ∧ (tI t1 (53 + 3 * u1.toNat) 1 = 1) ∧ (tI t1 (53 + 3 * u1.toNat) 2 = tA t 2 u3.toNat) ∧ (tI t1 (53 + 3 * u1.toNat) 3 = tA t 3 u3.toNat) ∧ (tI t1 (53 + 3 * u1.toNat) 4 = tA t 4 u3.toNat)) ∨ ((0 ≤ u1 ∧ u1 ≤ 4) ∧ (u2 = 2) ∧ (0 ≤ u3 ∧ u3 ≤ 3) ∧ (¬ tI t (45 + 2 * u3.toNat) 1 = -1) ∧ z1 = tI t (53 + 3 * u1.toNat) 1 ∧ (tI t1 (53 + 3 * u1.toNat) 1 = 2) ∧ (tI t1 ((53 + 3 * u1.toNat) + 1) 2 = tI t (45 + 2 * u3.toNat) 2) ∧ (∀ i : Nat, i < 24 → tA t1 ((53 + 3 * u1.toNat) + 1 + 1) i = tA t ((45 + 2 * u3.toNat) + 1) i)) ∨ ((0 ≤ u1 ∧ u1 ≤ 4) ∧ (u2 = 3) ∧ z1 = tI t (53 + 3 * u1.toNat) 1 ∧ (tI t1 (53 + 3 * u1.toNat) 1 = 3) ∧ (tI t1 (53 + 3 * u1.toNat) 5 = u3)))) (hp2 : (((¬ (0 ≤ u1 ∧ u1 ≤ 4 ∧ 0 ≤ u2 ∧ u2 ≤ 3) ∨ (u2 = 1 ∧ ¬ (0 ≤ u3 ∧ u3 ≤ tA t1 69 1 - 1)) ∨ (u2 = 2 ∧ ¬ (0 ≤ u3 ∧ u3 ≤ 3))) ∧ z2 = (-1000000001) ∧ t2 = t1) ∨ ((0 ≤ u1 ∧ u1 ≤ 4) ∧ (u2 = 2) ∧ (0 ≤ u3 ∧ u3 ≤ 3) ∧ (tA t1 83 u3.toNat = -1) ∧ z2 = (-1000000011) ∧ t2 = t1) ∨ ((0 ≤ u1 ∧ u1 ≤ 4) ∧ (u2 = 0 ∨ u2 = 3) ∧ z2 = tA t1 86 u1.toNat ∧ (∀ i, tA t2 86 i = if i = u1.toNat then u2 else tA t1 86 i) ∧ (∀ i, tA t2 87 i = if i = u1.toNat then u3 else tA t1 87 i) ∧ (∀ i, ¬ i = u1.toNat → tA t2 88 i = tA t1 88 i) ∧ (∀ i, tA t2 89 i = tA t1 89 i)) ∨ ((0 ≤ u1 ∧ u1 ≤ 4) ∧ (u2 = 1) ∧ (0 ≤ u3 ∧ u3 ≤ tA t1 69 1 - 1) ∧ z2 = tA t1 86 u1.toNat ∧ (∀ i, tA t2 86 i = if i = u1.toNat then u2 else tA t1 86 i) ∧ (∀ i, tA t2 87 i = if i = u1.toNat then (tA t1 69 (29 + 5 * u3 + 0).toNat) else tA t1 87 i) ∧ (∀ i, tA t2 88 i = if i = u1.toNat then (woF (tA t1 69 (29 + 5 * u3 + 0).toNat) (tA t1 69 (29 + 5 * u3 + 1).toNat) (tA t1 69 (29 + 5 * u3 + 2).toNat)) else tA t1 88 i) ∧ (∀ i, tA t2 89 i = tA t1 89 i)) ∨ ((0 ≤ u1 ∧ u1 ≤ 4) ∧ (u2 = 2) ∧ (0 ≤ u3 ∧ u3 ≤ 3) ∧ (¬ tA t1 83 u3.toNat = -1) ∧ z2 = tA t1 86 u1.toNat ∧ (∀ i, tA t2 86 i = if i = u1.toNat then u2 else tA t1 86 i) ∧ (∀ i, tA t2 87 i = if i = u1.toNat then tA t1 84 u3.toNat else tA t1 87 i) ∧ (∀ i, ¬ i = u1.toNat → tA t2 88 i = tA t1 88 i) ∧ (∀ i : Nat, tA t2 89 i = if 24 * u1 ≤ (i : Int) ∧ (i : Int) < 24 * u1 + 24 then tA t1 85 (24 * u3.toNat + (i - (24 * u1).toNat)) else tA t1 89 i)))) : z1 = z2 ∧ RW t2 t2 := by
  obtain ⟨⟨a1, a2, a3, a4⟩, b1, b2⟩ := g
  have rl0 := rl
  have cI := frI f2 (by decide)
  have cA := frA f2 (by decide)
  have z69 := r69 1
  by_cases hb : ¬ (0 ≤ u1 ∧ u1 ≤ 4 ∧ 0 ≤ u2 ∧ u2 ≤ 3) ∨ (u2 = 1 ∧ ¬ (0 ≤ u3 ∧ u3 ≤ tI t 1 10 - 1)) ∨ (u2 = 2 ∧ ¬ (0 ≤ u3 ∧ u3 ≤ 3))
  · rcases hp1 with h | h | h | h | h | h
    · rcases hp2 with k | k | k | k | k
      · exact ⟨by rw [h.2.1, k.2.1], by rw [k.2.2, h.2.2]; exact rl0⟩
      · exfalso; have q1 := k.1; have q2 := k.2.1; have q3 := k.2.2.1; omega
      · exfalso; have q1 := k.1; have q2 := k.2.1; omega
      · exfalso; have q1 := k.1; have q2 := k.2.1; have q3 := k.2.2.1; omega
      · exfalso; have q1 := k.1; have q2 := k.2.1; have q3 := k.2.2.1; omega
    · exfalso; have q1 := h.1; have q2 := h.2.1; have q3 := h.2.2.1; omega
    · exfalso; have q1 := h.1; have q2 := h.2.1; omega
    · exfalso; have q1 := h.1; have q2 := h.2.1; have q3 := h.2.2.1; omega
    · exfalso; have q1 := h.1; have q2 := h.2.1; have q3 := h.2.2.1; omega
    · exfalso; have q1 := h.1; have q2 := h.2.1; omega
  · have hs : u1.toNat < 5 := by omega
    obtain ⟨l1, l2, l3, l4⟩ := rl u1.toNat hs
    have w86 := r86 u1.toNat
    rcases hp1 with h | h | h | h | h | h
    · exact absurd h.1 hb
    · obtain ⟨hA, hg, hk, hm, hz, ht⟩ := h
      obtain ⟨s1, s2, s3⟩ := rs u3.toNat (by omega)
      have w83 := r83 u3.toNat
      rcases hp2 with k | k | k | k | k
      · exfalso; have q1 := k.1; omega
      · exact ⟨by rw [hz, k.2.2.2.2.1], by rw [k.2.2.2.2.2, ht]; exact rl0⟩
      · exfalso; have q1 := k.2.1; omega
      · exfalso; have q1 := k.2.1; omega
      · exfalso; have q1 := k.2.2.2.1; omega
    · obtain ⟨hA, hg, hz, h1⟩ := h
      rcases hp2 with k | k | k | k | k
      · exfalso; have q1 := k.1; omega
      · exfalso; have q1 := k.2.1; omega
      · obtain ⟨kA, kg, kz, k86, k87, k88, k89'⟩ := k
        have k89 : ∀ s' i : Nat, s' < 5 → i < 24 → ¬ s' = u1.toNat → tA t2 89 (24 * s' + i) = tA t1 89 (24 * s' + i) := fun s' i _ _ _ => k89' _
        refine ⟨by omega, fun s' hs' => ?_⟩
        have x86 := k86 s'
        have x87 := k87 s'
        by_cases q : s' = u1.toNat
        · subst q
          rw [if_pos rfl] at x86
          refine ⟨by rw [cI _ 1 (by omega), h1]; omega, fun w => ?_, fun w => ?_, fun w => ?_⟩
          all_goals (exfalso; omega)
        · obtain ⟨v1, v2, v3, v4⟩ := rl s' hs'
          have hb : ∀ g, tI t2 (53 + 3 * s') g = tI t (53 + 3 * s') g := fun g => by rw [cI _ g (by omega), f1.1 _ g (by simp; omega)]
          have hd : ∀ g, tI t2 ((53 + 3 * s') + 1) g = tI t ((53 + 3 * s') + 1) g := fun g => by rw [cI _ g (by omega), f1.1 _ g (by simp; omega)]
          have he : ∀ i, tA t2 ((53 + 3 * s') + 1 + 1) i = tA t ((53 + 3 * s') + 1 + 1) i := fun i => by rw [cA _ (by omega), f1.2.1 _ (by simp; omega)]
          rw [if_neg q] at x86 x87
          rw [r86] at x86
          rw [r87] at x87
          have x88 := k88 s' q
          rw [r88] at x88
          rw [x86, x87, x88, hb, hb, hb, hb, hb, hd]
          refine ⟨v1, v2, fun w => ⟨(v3 w).1, fun i hi => ?_⟩, v4⟩
          rw [he, k89 s' i hs' hi q, r89]
          exact (v3 w).2 i hi
      · exfalso; have q1 := k.2.1; omega
      · exfalso; have q1 := k.2.1; omega
    · obtain ⟨hA, hg, hk, hz, h1, h2, h3, h4⟩ := h
      rcases hp2 with k | k | k | k | k
      · exfalso; have q1 := k.1; omega
      · exfalso; have q1 := k.2.1; omega
      · exfalso; have q1 := k.2.1; omega
      · obtain ⟨kA, kg, kk, kz, k86, k87, k88', k89'⟩ := k
        have k89 : ∀ s' i : Nat, s' < 5 → i < 24 → ¬ s' = u1.toNat → tA t2 89 (24 * s' + i) = tA t1 89 (24 * s' + i) := fun s' i _ _ _ => k89' _
        have k88 : ∀ i, ¬ i = u1.toNat → tA t2 88 i = tA t1 88 i := fun i hi => by rw [k88', if_neg hi]
        have x88 := k88' u1.toNat
        rw [if_pos rfl] at x88
        have ea : (29 + 5 * u3 + 0).toNat = 29 + 5 * u3.toNat := by omega
        have eb : (29 + 5 * u3 + 1).toNat = 30 + 5 * u3.toNat := by omega
        have ec : (29 + 5 * u3 + 2).toNat = 31 + 5 * u3.toNat := by omega
        obtain ⟨p1, p2, p3⟩ := b2 u3.toNat (by omega)
        rw [ea, eb, ec, r69, r69, r69, ← p1, ← p2, ← p3] at x88
        simp only [ea, r69, ← p1] at k87
        refine ⟨by omega, fun s' hs' => ?_⟩
        have x86 := k86 s'
        have x87 := k87 s'
        by_cases q : s' = u1.toNat
        · subst q
          rw [if_pos rfl] at x86 x87
          refine ⟨by rw [cI _ 1 (by omega), h1]; omega, fun w => ⟨?_, ?_⟩, fun w => ?_, fun w => ?_⟩
          · rw [cI _ 2 (by omega), h2, x87]
          · rw [cI _ 2 (by omega), cI _ 3 (by omega), cI _ 4 (by omega), h2, h3, h4, x88]
          · exfalso; omega
          · exfalso; omega
        · obtain ⟨v1, v2, v3, v4⟩ := rl s' hs'
          have hb : ∀ g, tI t2 (53 + 3 * s') g = tI t (53 + 3 * s') g := fun g => by rw [cI _ g (by omega), f1.1 _ g (by simp; omega)]
          have hd : ∀ g, tI t2 ((53 + 3 * s') + 1) g = tI t ((53 + 3 * s') + 1) g := fun g => by rw [cI _ g (by omega), f1.1 _ g (by simp; omega)]
          have he : ∀ i, tA t2 ((53 + 3 * s') + 1 + 1) i = tA t ((53 + 3 * s') + 1 + 1) i := fun i => by rw [cA _ (by omega), f1.2.1 _ (by simp; omega)]
          rw [if_neg q] at x86 x87
          rw [r86] at x86
          rw [r87] at x87
          have x88 := k88 s' q
          rw [r88] at x88
          rw [x86, x87, x88, hb, hb, hb, hb, hb, hd]
          refine ⟨v1, v2, fun w => ⟨(v3 w).1, fun i hi => ?_⟩, v4⟩
          rw [he, k89 s' i hs' hi q, r89]
          exact (v3 w).2 i hi
      · exfalso; have q1 := k.2.1; omega
    · obtain ⟨hA, hg, hk, hm, hz, h1, h2, h3⟩ := h
      obtain ⟨s1, s2, s3⟩ := rs u3.toNat (by omega)
      have w83 := r83 u3.toNat
      rcases hp2 with k | k | k | k | k
      · exfalso; have q1 := k.1; omega
      · exfalso; have q1 := k.2.2.2.1; omega
      · exfalso; have q1 := k.2.1; omega
      · exfalso; have q1 := k.2.1; omega
      · obtain ⟨kA, kg, kk, km, kz, k86, k87, k88, k89'⟩ := k
        have k89 : ∀ s' i : Nat, s' < 5 → i < 24 → ¬ s' = u1.toNat → tA t2 89 (24 * s' + i) = tA t1 89 (24 * s' + i) := fun s' i _ _ _ => by rw [k89', if_neg (by omega)]
        simp only [r84, ← s2] at k87
        refine ⟨by omega, fun s' hs' => ?_⟩
        have x86 := k86 s'
        have x87 := k87 s'
        by_cases q : s' = u1.toNat
        · subst q
          rw [if_pos rfl] at x86 x87
          refine ⟨by rw [cI _ 1 (by omega), h1]; omega, fun w => ?_, fun w => ⟨?_, fun i hi => ?_⟩, fun w => ?_⟩
          · exfalso; omega
          · rw [cI _ 2 (by omega), h2, x87]
          · rw [cA _ (by omega), h3 i hi, k89', if_pos (by omega), r85, s3 i hi]
            congr 1
            omega
          · exfalso; omega
        · obtain ⟨v1, v2, v3, v4⟩ := rl s' hs'
          have hb : ∀ g, tI t2 (53 + 3 * s') g = tI t (53 + 3 * s') g := fun g => by rw [cI _ g (by omega), f1.1 _ g (by simp; omega)]
          have hd : ∀ g, tI t2 ((53 + 3 * s') + 1) g = tI t ((53 + 3 * s') + 1) g := fun g => by rw [cI _ g (by omega), f1.1 _ g (by simp; omega)]
          have he : ∀ i, tA t2 ((53 + 3 * s') + 1 + 1) i = tA t ((53 + 3 * s') + 1 + 1) i := fun i => by rw [cA _ (by omega), f1.2.1 _ (by simp; omega)]
          rw [if_neg q] at x86 x87
          rw [r86] at x86
          rw [r87] at x87
          have x88 := k88 s' q
          rw [r88] at x88
          rw [x86, x87, x88, hb, hb, hb, hb, hb, hd]
          refine ⟨v1, v2, fun w => ⟨(v3 w).1, fun i hi => ?_⟩, v4⟩
          rw [he, k89 s' i hs' hi q, r89]
          exact (v3 w).2 i hi
    · obtain ⟨hA, hg, hz, h1, h5⟩ := h
      rcases hp2 with k | k | k | k | k
      · exfalso; have q1 := k.1; omega
      · exfalso; have q1 := k.2.1; omega
      · obtain ⟨kA, kg, kz, k86, k87, k88, k89'⟩ := k
        have k89 : ∀ s' i : Nat, s' < 5 → i < 24 → ¬ s' = u1.toNat → tA t2 89 (24 * s' + i) = tA t1 89 (24 * s' + i) := fun s' i _ _ _ => k89' _
        refine ⟨by omega, fun s' hs' => ?_⟩
        have x86 := k86 s'
        have x87 := k87 s'
        by_cases q : s' = u1.toNat
        · subst q
          rw [if_pos rfl] at x86 x87
          refine ⟨by rw [cI _ 1 (by omega), h1]; omega, fun w => ?_, fun w => ?_, fun w => ?_⟩
          · exfalso; omega
          · exfalso; omega
          · rw [cI _ 5 (by omega), h5, x87]
        · obtain ⟨v1, v2, v3, v4⟩ := rl s' hs'
          have hb : ∀ g, tI t2 (53 + 3 * s') g = tI t (53 + 3 * s') g := fun g => by rw [cI _ g (by omega), f1.1 _ g (by simp; omega)]
          have hd : ∀ g, tI t2 ((53 + 3 * s') + 1) g = tI t ((53 + 3 * s') + 1) g := fun g => by rw [cI _ g (by omega), f1.1 _ g (by simp; omega)]
          have he : ∀ i, tA t2 ((53 + 3 * s') + 1 + 1) i = tA t ((53 + 3 * s') + 1 + 1) i := fun i => by rw [cA _ (by omega), f1.2.1 _ (by simp; omega)]
          rw [if_neg q] at x86 x87
          rw [r86] at x86
          rw [r87] at x87
          have x88 := k88 s' q
          rw [r88] at x88
          rw [x86, x87, x88, hb, hb, hb, hb, hb, hd]
          refine ⟨v1, v2, fun w => ⟨(v3 w).1, fun i hi => ?_⟩, v4⟩
          rw [he, k89 s' i hs' hi q, r89]
          exact (v3 w).2 i hi
      · exfalso; have q1 := k.2.1; omega
      · exfalso; have q1 := k.2.1; omega
set_option maxRecDepth 100000 in
theorem br_38 {t t1 t2 : TS} {u1 u2 z1 z2 : Int} (f1 : FrD [] t t1) (f2 : FrD [] t1 t2) (rl : RW t t) (hp1 : (((¬ (0 ≤ u1 ∧ u1 ≤ 4 ∧ 0 ≤ u2 ∧ u2 ≤ 5)) ∧ z1 = (-1000000001)) ∨ ((0 ≤ u1 ∧ u1 ≤ 4 ∧ 0 ≤ u2 ∧ u2 ≤ 5) ∧ (tI t (53 + 3 * u1.toNat) 1 = 0) ∧ z1 = (-1000000011)) ∨ ((0 ≤ u1 ∧ u1 ≤ 4 ∧ 0 ≤ u2 ∧ u2 ≤ 5) ∧ (¬ tI t (53 + 3 * u1.toNat) 1 = 0) ∧ (¬ tI t (53 + 3 * u1.toNat) 1 = 1) ∧ z1 = (-1000000012)) ∨ ((0 ≤ u1 ∧ u1 ≤ 4 ∧ 0 ≤ u2 ∧ u2 ≤ 5) ∧ (tI t (53 + 3 * u1.toNat) 1 = 1) ∧ (tI t (53 + 3 * u1.toNat) 2 = u2 ∨ u2 = 0 ∨ (u2 = 1 ∧ tI t (53 + 3 * u1.toNat) 2 = 3) ∨ (u2 = 2 ∧ tI t (53 + 3 * u1.toNat) 2 = 4)) ∧ z1 = woF (tI t (53 + 3 * u1.toNat) 2) (tI t (53 + 3 * u1.toNat) 3) (tI t (53 + 3 * u1.toNat) 4)) ∨ ((0 ≤ u1 ∧ u1 ≤ 4 ∧ 0 ≤ u2 ∧ u2 ≤ 5) ∧ (tI t (53 + 3 * u1.toNat) 1 = 1) ∧ (¬ (tI t (53 + 3 * u1.toNat) 2 = u2 ∨ u2 = 0 ∨ (u2 = 1 ∧ tI t (53 + 3 * u1.toNat) 2 = 3) ∨ (u2 = 2 ∧ tI t (53 + 3 * u1.toNat) 2 = 4))) ∧ z1 = (-1000000012)))) (hp2 : (((¬ (0 ≤ u1 ∧ u1 ≤ 4 ∧ 0 ≤ u2 ∧ u2 ≤ 5)) ∧ z2 = (-1000000001)) ∨ ((0 ≤ u1 ∧ u1 ≤ 4 ∧ 0 ≤ u2 ∧ u2 ≤ 5) ∧ (tA t1 86 u1.toNat = 0) ∧ z2 = (-1000000011)) ∨ ((0 ≤ u1 ∧ u1 ≤ 4 ∧ 0 ≤ u2 ∧ u2 ≤ 5) ∧ (¬ tA t1 86 u1.toNat = 0) ∧ (¬ tA t1 86 u1.toNat = 1) ∧ z2 = (-1000000012)) ∨ ((0 ≤ u1 ∧ u1 ≤ 4 ∧ 0 ≤ u2 ∧ u2 ≤ 5) ∧ (tA t1 86 u1.toNat = 1) ∧ (tA t1 87 u1.toNat = u2 ∨ u2 = 0 ∨ (u2 = 1 ∧ tA t1 87 u1.toNat = 3) ∨ (u2 = 2 ∧ tA t1 87 u1.toNat = 4)) ∧ z2 = tA t1 88 u1.toNat) ∨ ((0 ≤ u1 ∧ u1 ≤ 4 ∧ 0 ≤ u2 ∧ u2 ≤ 5) ∧ (tA t1 86 u1.toNat = 1) ∧ (¬ (tA t1 87 u1.toNat = u2 ∨ u2 = 0 ∨ (u2 = 1 ∧ tA t1 87 u1.toNat = 3) ∨ (u2 = 2 ∧ tA t1 87 u1.toNat = 4))) ∧ z2 = (-1000000012)))) : z1 = z2 := by
  have r86 := f1.2.1 86 (by simp)
  have r87 := f1.2.1 87 (by simp)
  have r88 := f1.2.1 88 (by simp)
  by_cases q : 0 ≤ u1 ∧ u1 ≤ 4 ∧ 0 ≤ u2 ∧ u2 ≤ 5
  · obtain ⟨l1, l2, l3, l4⟩ := rl u1.toNat (by omega)
    rw [r86, r87, r88] at hp2
    rcases hp1 with h | h | h | h | h
    · omega
    · omega
    · omega
    · have l5 := l2 (by omega)
      rw [l5.2] at h
      omega
    · have l5 := l2 (by omega)
      omega
  · omega
set_option maxRecDepth 100000 in
theorem br_39 {t t1 t2 : TS} {u1 u2 z1 z2 : Int} (f1 : FrD [] t t1) (f2 : FrD [] t1 t2) (rl : RW t t) (sl : ∀ i : Nat, i < 5 → tA t 86 i = 2 → 0 ≤ tA t 87 i ∧ tA t 87 i ≤ 24) (hp1 : (((¬ (0 ≤ u1 ∧ u1 ≤ 4)) ∧ z1 = (-1000000001)) ∨ ((0 ≤ u1 ∧ u1 ≤ 4) ∧ (tI t (53 + 3 * u1.toNat) 1 = 0) ∧ z1 = (-1000000011)) ∨ ((0 ≤ u1 ∧ u1 ≤ 4) ∧ (¬ tI t (53 + 3 * u1.toNat) 1 = 0) ∧ (¬ tI t (53 + 3 * u1.toNat) 1 = 2) ∧ z1 = (-1000000012)) ∨ ((0 ≤ u1 ∧ u1 ≤ 4) ∧ (tI t (53 + 3 * u1.toNat) 1 = 2) ∧ (¬ (0 ≤ u2 ∧ u2 ≤ tI t ((53 + 3 * u1.toNat) + 1) 2 - 1)) ∧ z1 = (-1000000013)) ∨ ((0 ≤ u1 ∧ u1 ≤ 4) ∧ (tI t (53 + 3 * u1.toNat) 1 = 2) ∧ (0 ≤ u2 ∧ u2 ≤ tI t ((53 + 3 * u1.toNat) + 1) 2 - 1) ∧ (tA t ((53 + 3 * u1.toNat) + 1 + 1) u2.toNat = (-1000000005)) ∧ z1 = (-1000000012)) ∨ ((0 ≤ u1 ∧ u1 ≤ 4) ∧ (tI t (53 + 3 * u1.toNat) 1 = 2) ∧ (0 ≤ u2 ∧ u2 ≤ tI t ((53 + 3 * u1.toNat) + 1) 2 - 1) ∧ (¬ tA t ((53 + 3 * u1.toNat) + 1 + 1) u2.toNat = (-1000000005)) ∧ z1 = tA t ((53 + 3 * u1.toNat) + 1 + 1) u2.toNat))) (hp2 : (((¬ (0 ≤ u1 ∧ u1 ≤ 4)) ∧ z2 = (-1000000001)) ∨ ((0 ≤ u1 ∧ u1 ≤ 4) ∧ (tA t1 86 u1.toNat = 0) ∧ z2 = (-1000000011)) ∨ ((0 ≤ u1 ∧ u1 ≤ 4) ∧ (¬ tA t1 86 u1.toNat = 0) ∧ (¬ tA t1 86 u1.toNat = 2) ∧ z2 = (-1000000012)) ∨ ((0 ≤ u1 ∧ u1 ≤ 4) ∧ (tA t1 86 u1.toNat = 2) ∧ (¬ (0 ≤ u2 ∧ u2 ≤ tA t1 87 u1.toNat - 1)) ∧ z2 = (-1000000013)) ∨ ((0 ≤ u1 ∧ u1 ≤ 4) ∧ (tA t1 86 u1.toNat = 2) ∧ (0 ≤ u2 ∧ u2 ≤ tA t1 87 u1.toNat - 1) ∧ (tA t1 89 (24 * u1 + u2).toNat = (-1000000005)) ∧ z2 = (-1000000012)) ∨ ((0 ≤ u1 ∧ u1 ≤ 4) ∧ (tA t1 86 u1.toNat = 2) ∧ (0 ≤ u2 ∧ u2 ≤ tA t1 87 u1.toNat - 1) ∧ (¬ tA t1 89 (24 * u1 + u2).toNat = (-1000000005)) ∧ z2 = tA t1 89 (24 * u1 + u2).toNat))) : z1 = z2 := by
  have r86 := f1.2.1 86 (by simp)
  have r87 := f1.2.1 87 (by simp)
  have r89 := f1.2.1 89 (by simp)
  by_cases q : 0 ≤ u1 ∧ u1 ≤ 4
  · obtain ⟨l1, l2, l3, l4⟩ := rl u1.toNat (by omega)
    rw [r86, r87] at hp2
    by_cases q2 : tA t 86 u1.toNat = 2
    · obtain ⟨m1, m2⟩ := l3 q2
      have m0 : tI t ((53 + 3 * u1.toNat) + 1) 2 ≤ 24 := by rw [m1]; exact (sl _ (by omega) q2).2
      by_cases q3 : 0 ≤ u2 ∧ u2 ≤ tA t 87 u1.toNat - 1
      · have m3 := m2 u2.toNat (by omega)
        rw [show (24 * u1 + u2).toNat = 24 * u1.toNat + u2.toNat by omega, r89] at hp2
        omega
      · omega
    · omega
  · omega
set_option maxRecDepth 100000 in
theorem br_40 {t t1 t2 : TS} {u1 u2 z1 z2 : Int} (f1 : FrD [] t t1) (f2 : FrD [] t1 t2) (rl : RW t t) (hp1 : (((¬ (0 ≤ u1 ∧ u1 ≤ 4)) ∧ z1 = (-1000000001)) ∨ ((0 ≤ u1 ∧ u1 ≤ 4) ∧ (tI t (53 + 3 * u1.toNat) 1 = 0) ∧ z1 = (-1000000011)) ∨ ((0 ≤ u1 ∧ u1 ≤ 4) ∧ (¬ tI t (53 + 3 * u1.toNat) 1 = 0) ∧ (¬ tI t (53 + 3 * u1.toNat) 1 = 3) ∧ z1 = (-1000000012)) ∨ ((0 ≤ u1 ∧ u1 ≤ 4) ∧ (tI t (53 + 3 * u1.toNat) 1 = 3) ∧ (u2 = 0) ∧ z1 = (-1000000002)) ∨ ((0 ≤ u1 ∧ u1 ≤ 4) ∧ (tI t (53 + 3 * u1.toNat) 1 = 3) ∧ (¬ u2 = 0) ∧ z1 = modF (tI t (53 + 3 * u1.toNat) 5) u2))) (hp2 : (((¬ (0 ≤ u1 ∧ u1 ≤ 4)) ∧ z2 = (-1000000001)) ∨ ((0 ≤ u1 ∧ u1 ≤ 4) ∧ (tA t1 86 u1.toNat = 0) ∧ z2 = (-1000000011)) ∨ ((0 ≤ u1 ∧ u1 ≤ 4) ∧ (¬ tA t1 86 u1.toNat = 0) ∧ (¬ tA t1 86 u1.toNat = 3) ∧ z2 = (-1000000012)) ∨ ((0 ≤ u1 ∧ u1 ≤ 4) ∧ (tA t1 86 u1.toNat = 3) ∧ (u2 = 0) ∧ z2 = (-1000000002)) ∨ ((0 ≤ u1 ∧ u1 ≤ 4) ∧ (tA t1 86 u1.toNat = 3) ∧ (u2 = -1) ∧ z2 = 0) ∨ ((0 ≤ u1 ∧ u1 ≤ 4) ∧ (tA t1 86 u1.toNat = 3) ∧ (¬ u2 = 0) ∧ (¬ u2 = -1) ∧ z2 = modF (tA t1 87 u1.toNat) u2))) : z1 = z2 := by
  have r86 := f1.2.1 86 (by simp)
  have r87 := f1.2.1 87 (by simp)
  by_cases q : 0 ≤ u1 ∧ u1 ≤ 4
  · obtain ⟨l1, l2, l3, l4⟩ := rl u1.toNat (by omega)
    rw [r86, r87] at hp2
    by_cases q2 : tA t 86 u1.toNat = 3
    · have l5 := l4 q2
      by_cases q3 : u2 = -1
      · subst q3
        have l6 := modF_neg1 (tI t (53 + 3 * u1.toNat) 5)
        rcases hp1 with h | h | h | h | h <;> rcases hp2 with k | k | k | k | k | k <;> omega
      · rw [← l5] at hp2
        omega
    · omega
  · omega
set_option maxRecDepth 100000 in
theorem br_41 {t t1 t2 : TS} {u1 z1 z2 : Int} (f1 : FrD [(0, 8), (44, 100)] t t1) (f2 : FrD [(68, 35), (91, 100)] t1 t2) (rm : RM t t) (hp1 : (((60 ≤ tI t 0 8) ∧ z1 = (-1000000003) ∧ t1 = t) ∨ ((tI t 0 8 < 60) ∧ z1 = tI t 0 8 + 1 ∧ (tI t1 0 8 = tI t 0 8 + 1) ∧ (∀ i, tA t1 44 i = if i = (tI t 0 8).toNat then u1 else tA t 44 i)))) (hp2 : (((60 ≤ tI t1 68 35) ∧ z2 = (-1000000003) ∧ t2 = t1) ∨ ((tI t1 68 35 < 60) ∧ z2 = tI t1 68 35 + 1 ∧ (tI t2 68 35 = tI t1 68 35 + 1) ∧ (∀ i, tA t2 91 i = if i = (tI t1 68 35).toNat then u1 else tA t1 91 i)))) : z1 = z2 ∧ RM t2 t2 := by
  obtain ⟨m1, m2, m3, m4⟩ := rm
  have rm0 : RM t t := ⟨m1, m2, m3, m4⟩
  have cI := frI f2 (by decide)
  have cA := frA f2 (by decide)
  have e9 := cI 0 9 (by decide)
  have e8 := cI 0 8 (by decide)
  have e1 := cI 37 1 (by decide)
  have p3 := f1.1 68 3 (by simp)
  have p35 := f1.1 68 35 (by simp)
  have p9 := f1.1 68 9 (by simp)
  have x9 := f1.1 0 9 (by simp)
  have y3 := f2.1 68 3 (by simp)
  have x1 := f1.1 37 1 (by simp)
  have y9 := f2.1 68 9 (by simp)
  rcases hp1 with h | h
  · rcases hp2 with k | k
    · exact ⟨by rw [h.2.1, k.2.1], by rw [k.2.2, h.2.2]; exact rm0⟩
    · exfalso; have q1 := h.1; have q2 := k.1; omega
  · rcases hp2 with k | k
    · exfalso; have q1 := h.1; have q2 := k.1; omega
    · obtain ⟨hA, h2, h3, h4⟩ := h
      obtain ⟨kA, k2, k3, k4⟩ := k
      have en : (tI t1 68 35).toNat = (tI t 0 8).toNat := by omega
      rw [en] at k4
      refine ⟨by omega, by omega, by omega, by omega, fun i hi => ?_⟩
      rw [cA 44 (by decide), h4, k4]
      by_cases q : i = (tI t 0 8).toNat
      · rw [if_pos q, if_pos q]
      · rw [if_neg q, if_neg q, f1.2.1 91 (by simp)]
        exact m4 i (by omega)
set_option maxRecDepth 100000 in
theorem br_42 {t t1 t2 : TS} {z1 z2 : Int} (f1 : FrD [(0, 8), (24, 10), (24, 11), (24, 12), (24, 13), (24, 14), (25, 100), (26, 100), (27, 100), (28, 100), (29, 100), (30, 100), (31, 100), (32, 100), (34, 100), (33, 101)] t t1) (f2 : FrD [(68, 35), (69, 100), (71, 100), (81, 100), (82, 100)] t1 t2) (rm : RM t t) (hp1 : (-2147483648 ≤ z1) ∧ (z1 ≤ 2147483647) ∧ (tI t1 0 8 = 0)) (hp2 : (-2147483648 ≤ z2) ∧ (z2 ≤ 2147483647) ∧ (tI t2 68 35 = 0) ∧ (∀ i : Nat, i < 1461 → tA t2 69 i = tA t1 69 i)) : True ∧ RM t2 t2 := by
  obtain ⟨m1, m2, m3, m4⟩ := rm
  have rm0 : RM t t := ⟨m1, m2, m3, m4⟩
  have cI := frI f2 (by decide)
  have cA := frA f2 (by decide)
  have e9 := cI 0 9 (by decide)
  have e8 := cI 0 8 (by decide)
  have e1 := cI 37 1 (by decide)
  have p3 := f1.1 68 3 (by simp)
  have p35 := f1.1 68 35 (by simp)
  have p9 := f1.1 68 9 (by simp)
  have x9 := f1.1 0 9 (by simp)
  have y3 := f2.1 68 3 (by simp)
  have x1 := f1.1 37 1 (by simp)
  have y9 := f2.1 68 9 (by simp)
  have h3 := hp1.2.2
  have k3 := hp2.2.2.1
  exact ⟨trivial, by omega, by omega, by omega, fun i hi => by exfalso; omega⟩
set_option maxRecDepth 100000 in
theorem br_43 {t t1 t2 : TS} {z1 z2 : Int} (f1 : FrD [(12, 10), (12, 11), (12, 12), (12, 13), (12, 14), (13, 100), (14, 100), (15, 100), (16, 100), (17, 100), (18, 100), (19, 100), (20, 100), (22, 100), (21, 101), (0, 9)] t t1) (f2 : FrD [(70, 100), (68, 3)] t1 t2) (g : RG t t 1 2 3 4 8 69) (rm : RM t t) (n12 : tI t 1 10 ≤ 12) (hp1 : (z1 = tI t 1 10) ∧ (tI t1 0 9 = 1) ∧ (tI t1 12 10 = tI t 1 10) ∧ (tI t1 12 11 = tI t 1 11) ∧ (tI t1 12 12 = tI t 1 12) ∧ (tI t1 12 13 = tI t 1 13) ∧ (tI t1 12 14 = tI t 1 14) ∧ (∀ i : Nat, i < 12 → tA t1 13 i = tA t 2 i) ∧ (∀ i : Nat, i < 12 → tA t1 14 i = tA t 3 i) ∧ (∀ i : Nat, i < 12 → tA t1 15 i = tA t 4 i) ∧ (∀ i : Nat, i < 12 → tA t1 16 i = tA t 5 i) ∧ (∀ i : Nat, i < 12 → tA t1 17 i = tA t 6 i) ∧ (∀ i : Nat, i < 12 → tA t1 18 i = tA t 7 i) ∧ (∀ i : Nat, i < 24 → tA t1 19 i = tA t 8 i) ∧ (∀ i : Nat, i < 96 → tA t1 20 i = tA t 9 i) ∧ (∀ i : Nat, i < 3 → tA t1 22 i = tA t 11 i) ∧ (∀ i : Nat, i < 14 → tT t1 21 i = tT t 10 i)) (hp2 : (z2 = tA t1 69 1) ∧ (tI t2 68 3 = 1) ∧ (∀ i : Nat, i < 1461 → tA t2 70 i = tA t1 69 i)) : z1 = z2 ∧ RG t2 t2 12 13 14 15 19 70 ∧ RM t2 t2 := by
  obtain ⟨⟨a1, a2, a3, a4⟩, b1, b2⟩ := g
  obtain ⟨m1, m2, m3, m4⟩ := rm
  have r := f1.2.1 69 (by simp)
  have cI := frI f2 (by decide)
  have cA := frA f2 (by decide)
  obtain ⟨hz, h9, h10, h11, h12, h13, h14, hk, hl, hr, hp, hu, hh, hw, -⟩ := hp1
  obtain ⟨kz, k9, ko⟩ := hp2
  have r0 := r 0
  have r1 := r 1
  have r2 := r 2
  have r3 := r 3
  have o0 := ko 0 (by decide)
  have o1 := ko 1 (by decide)
  have o2 := ko 2 (by decide)
  have o3 := ko 3 (by decide)
  have e10 := cI 12 10 (by decide)
  have e12 := cI 12 12 (by decide)
  have e13 := cI 12 13 (by decide)
  have e14 := cI 12 14 (by decide)
  have e9 := cI 0 9 (by decide)
  have e8 := cI 0 8 (by decide)
  have e1 := cI 37 1 (by decide)
  have p35 := f1.1 68 35 (by simp)
  have p9 := f1.1 68 9 (by simp)
  have x8 := f1.1 0 8 (by simp)
  have y35 := f2.1 68 35 (by simp)
  have x1 := f1.1 37 1 (by simp)
  have y9 := f2.1 68 9 (by simp)
  refine ⟨by omega, ⟨⟨by omega, by omega, by omega, by omega⟩, fun i hi => ?_, fun i hi => ?_⟩, by omega, by omega, by omega, fun i hi => by rw [cA 44 (by decide), f1.2.1 44 (by simp), f2.2.1 91 (by simp), f1.2.1 91 (by simp)]; exact m4 i (by omega)⟩
  · rw [cA 19 (by decide), hw i hi, ko _ (by omega), r]
    exact b1 i hi
  · have hj : (i : Int) < tA t 69 1 := by omega
    refine ⟨?_, ?_, ?_⟩
    · rw [cA 13 (by decide), hk i (by omega), ko _ (by omega), r]; exact (b2 i hj).1
    · rw [cA 14 (by decide), hl i (by omega), ko _ (by omega), r]; exact (b2 i hj).2.1
    · rw [cA 15 (by decide), hr i (by omega), ko _ (by omega), r]; exact (b2 i hj).2.2
set_option maxRecDepth 100000 in
theorem br_44 {t t1 t2 : TS} {z1 z2 : Int} (f1 : FrD [(1, 10), (1, 11), (1, 12), (1, 13), (1, 14), (2, 100), (3, 100), (4, 100), (5, 100), (6, 100), (7, 100), (8, 100), (9, 100), (11, 100), (10, 101)] t t1) (f2 : FrD [(69, 100)] t1 t2) (g : RG t t 1 2 3 4 8 69) (g2 : ¬ tI t 0 9 = 0 → RG t t 12 13 14 15 19 70) (rm : RM t t) (n12 : tI t 12 10 ≤ 12) (hp1 : (((tI t 0 9 = 0) ∧ z1 = (-1000000002) ∧ t1 = t) ∨ ((¬ tI t 0 9 = 0) ∧ z1 = tI t 12 10 ∧ (tI t1 1 10 = tI t 12 10) ∧ (tI t1 1 11 = tI t 12 11) ∧ (tI t1 1 12 = tI t 12 12) ∧ (tI t1 1 13 = tI t 12 13) ∧ (tI t1 1 14 = tI t 12 14) ∧ (∀ i : Nat, i < 12 → tA t1 2 i = tA t 13 i) ∧ (∀ i : Nat, i < 12 → tA t1 3 i = tA t 14 i) ∧ (∀ i : Nat, i < 12 → tA t1 4 i = tA t 15 i) ∧ (∀ i : Nat, i < 12 → tA t1 5 i = tA t 16 i) ∧ (∀ i : Nat, i < 12 → tA t1 6 i = tA t 17 i) ∧ (∀ i : Nat, i < 12 → tA t1 7 i = tA t 18 i) ∧ (∀ i : Nat, i < 24 → tA t1 8 i = tA t 19 i) ∧ (∀ i : Nat, i < 96 → tA t1 9 i = tA t 20 i) ∧ (∀ i : Nat, i < 3 → tA t1 11 i = tA t 22 i) ∧ (∀ i : Nat, i < 14 → tT t1 10 i = tT t 21 i)))) (hp2 : (((tI t1 68 3 = 0) ∧ z2 = (-1000000002) ∧ t2 = t1) ∨ ((¬ tI t1 68 3 = 0) ∧ z2 = tA t1 70 1 ∧ (∀ i : Nat, i < 1461 → tA t2 69 i = tA t1 70 i)))) : z1 = z2 ∧ RG t2 t2 1 2 3 4 8 69 := by
  have g0 := g
  obtain ⟨m1, m2, m3, m4⟩ := rm
  have r := f1.2.1 70 (by simp)
  have cI := frI f2 (by decide)
  have cA := frA f2 (by decide)
  have p3 := f1.1 68 3 (by simp)
  have r0 := r 0
  have r1 := r 1
  have r2 := r 2
  have r3 := r 3
  have e10 := cI 1 10 (by decide)
  have e12 := cI 1 12 (by decide)
  have e13 := cI 1 13 (by decide)
  have e14 := cI 1 14 (by decide)
  rcases hp1 with h | h
  · rcases hp2 with k | k
    · exact ⟨by rw [h.2.1, k.2.1], by rw [k.2.2, h.2.2]; exact g0⟩
    · exfalso; have q1 := h.1; have q2 := k.1; omega
  · rcases hp2 with k | k
    · exfalso; have q1 := h.1; have q2 := k.1; omega
    · obtain ⟨hA, hz, h10, h11, h12, h13, h14, hk, hl, hr, hp, hu, hh, hw, -⟩ := h
      obtain ⟨kA, kz, ko⟩ := k
      obtain ⟨⟨a1, a2, a3, a4⟩, b1, b2⟩ := g2 hA
      have o0 := ko 0 (by decide)
      have o1 := ko 1 (by decide)
      have o2 := ko 2 (by decide)
      have o3 := ko 3 (by decide)
      refine ⟨by omega, ⟨by omega, by omega, by omega, by omega⟩, fun i hi => ?_, fun i hi => ?_⟩
      · rw [cA 8 (by decide), hw i hi, ko _ (by omega), r]
        exact b1 i hi
      · have hj : (i : Int) < tA t 70 1 := by omega
        refine ⟨?_, ?_, ?_⟩
        · rw [cA 2 (by decide), hk i (by omega), ko _ (by omega), r]; exact (b2 i hj).1
        · rw [cA 3 (by decide), hl i (by omega), ko _ (by omega), r]; exact (b2 i hj).2.1
        · rw [cA 4 (by decide), hr i (by omega), ko _ (by omega), r]; exact (b2 i hj).2.2
