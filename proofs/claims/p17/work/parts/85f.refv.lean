/-! ===== the reference's views ===== -/
def coF (A : Nat → Int) (q : Int) : Nat → Int
  | 0 => -1
  | k + 1 => if A k / 1000 = q then (k : Int) else coF A q k
theorem coF_b (A : Nat → Int) (q : Int) : ∀ n : Nat, -1 ≤ coF A q n ∧ coF A q n ≤ (n : Int) - 1
  | 0 => by unfold coF; omega
  | n + 1 => by
    have := coF_b A q n
    unfold coF
    split <;> omega
theorem coF_at {A : Nat → Int} {q : Int} : ∀ {n : Nat}, ¬ coF A q n = -1 → A (coF A q n).toNat / 1000 = q
  | 0, h => absurd rfl h
  | n + 1, h => by
    unfold coF at h ⊢
    by_cases e : A n / 1000 = q
    · rw [if_pos e]
      simpa using e
    · rw [if_neg e] at h ⊢
      exact coF_at h
theorem coF_cg {A B : Nat → Int} {q : Int} : ∀ {n : Nat}, (∀ k, k < n → A k = B k) → coF A q n = coF B q n
  | 0, _ => rfl
  | n + 1, h => by
    unfold coF
    rw [coF_cg (fun k hk => h k (by omega)), h n (by omega)]
theorem coF_s {A : Nat → Int} {q : Int} {x : Int} (hx : 0 ≤ x) (e : ¬ A x.toNat / 1000 = q) : coF A q (x + 1).toNat = coF A q x.toNat := by
  rw [show (x + 1).toNat = x.toNat + 1 by omega]
  show (if _ then _ else _) = _
  rw [if_neg e]
theorem coF_h {A : Nat → Int} {q : Int} {x : Int} (hx : 0 ≤ x) (e : A x.toNat / 1000 = q) : coF A q (x + 1).toNat = x := by
  rw [show (x + 1).toNat = x.toNat + 1 by omega]
  show (if _ then _ else _) = _
  rw [if_pos e]
  omega
def rkA (t : TS) (c : Nat) : Nat → Int := fun k => tA t c (89 + 2 * k)
def rcA (t : TS) (c k : Nat) : Nat → Int := fun i => tA t c (117 + 96 * k + i)
def rnA (t : TS) (c k : Nat) : Nat := (tA t c (89 + 2 * k) % 1000).toNat
def cuA (t : TS) (c : Nat) (q : Int) : Int := coF (rkA t c) q (tA t c 4).toNat
def exR (t : TS) (c : Nat) (q d f0 f1 f2 : Int) : Int := if cuA t c q = -1 then d else evR (rcA t c (cuA t c q).toNat) f0 f1 f2 (rnA t c (cuA t c q).toNat)
def hvA (t : TS) (c s : Nat) : Int := hvF (tA t c (29 + 5 * s)) (tA t c (30 + 5 * s)) (tA t c (31 + 5 * s))
def dkA (t : TS) (c s : Nat) (p r : Int) : Int := dkF (tA t c (29 + 5 * s)) (max 0 (min 99 (exR t c 0 (15 * p) p r (hvA t c s))))
def dkS (t : TS) (c s r u : Nat) : Int := dkA t c s (if u = 0 then tA t c (30 + 5 * s) else tA t c (31 + 5 * s)) r
def OA (t : TS) (c : Nat) : Nat → Nat → Nat → Int := fun s p u => if p < 12 then abF (dkS t c s (p / 3) u - tA t c (5 + 2 * p)) + abF (dkS t c s (p / 3) (1 - u) - tA t c (6 + 2 * p)) else 0
def NZ (t : TS) (c : Nat) : Prop := ∀ k : Nat, (k : Int) < tA t c 4 → 1 ≤ tA t c (89 + 2 * k) % 1000
def RPc (t : TS) (c : Nat) : GPU := (fun s => tA t c (32 + 5 * s), fun s => tA t c (33 + 5 * s))
def RPt (t : TS) : GPU := (fun s => if (s : Int) = tI t 68 4 then 13 else tA t 69 (32 + 5 * s), fun s => tA t 69 (33 + 5 * s))
def AWp (t : TS) : Prop := tI t 68 4 = -1 ∨ tA t 69 (32 + 5 * (tI t 68 4).toNat) = 12
theorem RPt_no {t : TS} (h : tI t 68 4 = -1) : RPt t = RPc t 69 := by
  unfold RPt RPc
  congr 1
  funext s
  rw [if_neg (by omega)]
theorem ho_aw {t : TS} (ok : OK t) (h : AWp t) {p : Int} (hp : p < 12) (n : Nat) : hoF (fun s => tA t 69 (32 + 5 * s)) p n = hoF (RPt t).1 p n := by
  refine hoF_cong2 (fun s _ => ?_)
  show tA t 69 (32 + 5 * s) = p ↔ (if (s : Int) = tI t 68 4 then 13 else tA t 69 (32 + 5 * s)) = p
  by_cases e : (s : Int) = tI t 68 4
  · rw [if_pos e]
    rcases h with k | k
    · omega
    · rw [show s = (tI t 68 4).toNat by omega, k]
      omega
  · rw [if_neg e]
theorem RPt_12 {t : TS} {s : Nat} : (RPt t).1 s = 12 ↔ (tA t 69 (32 + 5 * s) = 12 ∧ ¬ (s : Int) = tI t 68 4) := by
  show (if (s : Int) = tI t 68 4 then 13 else tA t 69 (32 + 5 * s)) = 12 ↔ _
  split <;> omega
/-- what may change without any change of how texts, kinds, wants look -/
theorem OA_cg {t u : TS} {c : Nat} (h : ∀ i, ¬ i = 0 → ¬ i = 2 → (i < 29 ∨ 89 ≤ i ∨ (i - 29) % 5 < 3) → tA u c i = tA t c i) : OA u c = OA t c := by
  have e1 : rkA u c = rkA t c := funext (fun k => h _ (by omega) (by omega) (by omega))
  have e2 : ∀ k, rcA u c k = rcA t c k := fun k => funext (fun i => h _ (by omega) (by omega) (by omega))
  have e3 : ∀ k, rnA u c k = rnA t c k := fun k => by unfold rnA; rw [h _ (by omega) (by omega) (by omega)]
  have e4 : ∀ q, cuA u c q = cuA t c q := fun q => by unfold cuA; rw [e1, h 4 (by decide) (by decide) (by decide)]
  have k1 : ∀ s, tA u c (29 + 5 * s) = tA t c (29 + 5 * s) := fun s => h _ (by omega) (by omega) (by omega)
  have k2 : ∀ s, tA u c (30 + 5 * s) = tA t c (30 + 5 * s) := fun s => h _ (by omega) (by omega) (by omega)
  have k3 : ∀ s, tA u c (31 + 5 * s) = tA t c (31 + 5 * s) := fun s => h _ (by omega) (by omega) (by omega)
  have e5 : ∀ s r v, dkS u c s r v = dkS t c s r v := by
    intro s r v
    unfold dkS dkA exR hvA
    rw [e4, e2, e3, k1, k2, k3]
  funext s p v
  unfold OA
  rw [e5, e5]
  by_cases q : p < 12
  · rw [if_pos q, if_pos q, h (5 + 2 * p) (by omega) (by omega) (by omega), h (6 + 2 * p) (by omega) (by omega) (by omega)]
  · rw [if_neg q, if_neg q]
theorem OA_dq {t u : TS} (d : Dq t u) : OA u 69 = OA t 69 := OA_cg d
theorem OA_fr {S : List (Nat × Nat)} {t u : TS} (f : Fr S t u) (h : (69, 100) ∉ S) : OA u 69 = OA t 69 := OA_cg (fun i _ _ _ => f.2.1 69 h i)
/-! working a text out, in the reference -/
theorem tz_o {s x y z : Int} (hs : s = -1) (h : ((¬ x = 0 ∨ ¬ y = 0) ∧ z = 1) ∨ (x = 0 ∧ y = 0 ∧ z = 0)) : z = twF s x y := by
  subst hs
  show _ = (if ¬ x = 0 ∨ ¬ y = 0 then 1 else 0)
  split <;> omega
theorem tz_a {s x y z : Int} (hs : s = -2) (h : (¬ x = 0 ∧ ¬ y = 0 ∧ z = 1) ∨ ((x = 0 ∨ y = 0) ∧ z = 0)) : z = twF s x y := by
  subst hs
  show _ = (if ¬ x = 0 ∧ ¬ y = 0 then 1 else 0)
  split <;> omega
theorem tz_l {s x y z : Int} (hs : s = -3) (h : (x < y ∧ z = 1) ∨ (¬ x < y ∧ z = 0)) : z = twF s x y := by
  subst hs
  show _ = (if x < y then 1 else 0)
  split <;> omega
theorem tz_e {s x y z : Int} (hs : s = -4) (h : (x = y ∧ z = 1) ∨ (¬ x = y ∧ z = 0)) : z = twF s x y := by
  subst hs
  show _ = (if x = y then 1 else 0)
  split <;> omega
theorem tz_g {s x y z : Int} (hs : s = -5) (h : (y < x ∧ z = 1) ∨ (¬ y < x ∧ z = 0)) : z = twF s x y := by
  subst hs
  show _ = (if y < x then 1 else 0)
  split <;> omega
theorem tz_p {s x y z : Int} (hs : s = -6) (h : z = nrm (x + y)) : z = twF s x y := by subst hs h; rfl
theorem tz_m {s x y z : Int} (hs : s = -7) (h : z = nrm (x - y)) : z = twF s x y := by subst hs h; rfl
theorem tz_t {s x y z : Int} (hs : s = -8) (h : z = nrm (x * y)) : z = twF s x y := by subst hs h; rfl
theorem tz_x {s x y : Int} (hs : s < -8 ∨ 0 ≤ s) : twF s x y = if y = 0 then 0 else fZ (fun x y => x / y) x y := by
  unfold twF
  rw [if_neg (by omega), if_neg (by omega), if_neg (by omega), if_neg (by omega), if_neg (by omega), if_neg (by omega), if_neg (by omega), if_neg (by omega)]
theorem tz_d0 {s x y z : Int} (hs : s < -8 ∨ 0 ≤ s) (hy : y = 0) (h : z = 0) : z = twF s x y := by rw [tz_x hs, if_pos hy, h]
theorem tz_d {s x y z : Int} (hs : s < -8 ∨ 0 ≤ s) (hy : ¬ y = 0) (h : z = fZ (fun x y => x / y) x y) : z = twF s x y := by rw [tz_x hs, if_neg hy, h]
def WEp (t u : TS) (x top k : Int) : Prop := (top, tA u 81) = evF (rcA t 69 x.toNat) (tA t 82 0) (tA t 82 1) (tA t 82 2) (tA t 81) k.toNat
theorem we_0 (t : TS) (x : Int) : WEp t t x 0 0 := rfl
theorem we_s {t u v : TS} {x top k top2 : Int} (h : WEp t u x top k) (hk : 0 ≤ k) (e : (top2, tA v 81) = ev1 (rcA t 69 x.toNat k.toNat) (tA t 82 0) (tA t 82 1) (tA t 82 2) (top, tA u 81)) : WEp t v x top2 (k + 1) := by
  unfold WEp
  rw [show (k + 1).toNat = k.toNat + 1 by omega, e, show (top, tA u 81) = _ from h]
  rfl
theorem up81 {u v : TS} {i : Nat} {z : Int} (h : v = uA u 81 i z) : tA v 81 = upF (tA u 81) i z := by
  funext m
  rw [h, tA_uA]
  unfold upF
  by_cases q : m = i
  · rw [if_pos ⟨rfl, q⟩, if_pos q]
  · rw [if_neg (fun k => q k.2), if_neg q]
theorem we_n {t u v : TS} {x top k s z : Int} (h : WEp t u x top k) (hk : 0 ≤ k) (hs : s = rcA t 69 x.toNat k.toNat) (h0 : 0 ≤ s) (hz : (s < 10000 ∧ z = s) ∨ (10000 ≤ s ∧ s ≤ 10002 ∧ z = tA t 82 (s - 10000).toNat)) (hv : v = uA u 81 top.toNat z) : WEp t v x (top + 1) (k + 1) := by
  refine we_s h hk ?_
  unfold ev1
  rw [← hs, if_pos h0, up81 hv]
  have e : opF (tA t 82 0) (tA t 82 1) (tA t 82 2) s = z := by
    unfold opF faF
    rcases hz with q | q
    · rw [if_pos q.1, q.2]
    · rw [if_neg (by omega), q.2.2]
      have d : s = 10000 ∨ s = 10001 ∨ s = 10002 := by omega
      rcases d with rfl | rfl | rfl <;> rfl
  rw [e]
theorem we_t {t u v : TS} {x top k s a z : Int} (h : WEp t u x top k) (hk : 0 ≤ k) (hs : s = rcA t 69 x.toNat k.toNat) (h0 : s = -10) (ha : a = tA u 81 (top - 1).toNat) (hz : (a = 0 ∧ z = 1) ∨ (¬ a = 0 ∧ z = 0)) (hv : v = uA u 81 (top - 1).toNat z) : WEp t v x top (k + 1) := by
  refine we_s h hk ?_
  unfold ev1
  subst ha
  rw [← hs, if_neg (by omega), if_pos h0, up81 hv]
  dsimp only
  rcases hz with q | q
  · rw [if_pos q.1, q.2]
  · rw [if_neg q.1, q.2]
theorem we_2 {t u v : TS} {x top top2 k s a b z : Int} (h : WEp t u x top k) (hk : 0 ≤ k) (hs : s = rcA t 69 x.toNat k.toNat) (h0 : s < 0 ∧ ¬ s = -10) (ha : a = tA u 81 (top - 2).toNat) (hb : b = tA u 81 (top - 1).toNat) (hz : z = twF s a b) (hv : v = uA u 81 (top - 2).toNat z) (e2 : top2 = top - 1) : WEp t v x top2 (k + 1) := by
  refine we_s h hk ?_
  unfold ev1
  rw [← hs, if_neg (by omega), if_neg h0.2, up81 hv]
  dsimp only
  rw [← ha, ← hb, ← hz, e2]
theorem we_e {t u : TS} {x top k : Int} (h : WEp t u x top k) (hk : k = tA t 69 (89 + 2 * x.toNat) % 1000) (w : wfC (rcA t 69 x.toNat) (rnA t 69 x.toNat)) (h1 : 1 ≤ tA t 69 (89 + 2 * x.toNat) % 1000) : tA u 81 0 = evR (rcA t 69 x.toNat) (tA t 82 0) (tA t 82 1) (tA t 82 2) (rnA t 69 x.toNat) := by
  have e : tA u 81 = (evF (rcA t 69 x.toNat) (tA t 82 0) (tA t 82 1) (tA t 82 2) (tA t 81) k.toNat).2 := congrArg (fun q => q.2) (show (top, tA u 81) = _ from h)
  rw [e, show k.toNat = rnA t 69 x.toNat by unfold rnA; omega]
  exact evF_res w (by unfold rnA; omega)
/-! the best laying, by one number -/
theorem lbk_n {O : Nat → Nat → Int} {P : Nat → Int} {k which least way : Int} (h : lb1 O P k.toNat which least way) (hk : 0 ≤ k) (e : ¬ P (k / 2).toNat = 12 ∨ (¬ which = -1 ∧ ¬ O (k / 2).toNat (k % 2).toNat < least)) : lb1 O P (k + 1).toNat which least way := by
  refine (lb1.n h (fun q => ?_)).k (by omega)
  rw [show k.toNat / 2 = (k / 2).toNat by omega, show k.toNat % 2 = (k % 2).toNat by omega] at q
  rcases e with e | e
  · exact e q.1
  · rcases q.2 with d | d
    · exact e.1 d
    · exact e.2 d
theorem lbk_y {O : Nat → Nat → Int} {P : Nat → Int} {k which least way x : Int} (h : lb1 O P k.toNat which least way) (hk : 0 ≤ k) (hP : P (k / 2).toNat = 12) (hx : x = O (k / 2).toNat (k % 2).toNat) (e : which = -1 ∨ x < least) : lb1 O P (k + 1).toNat (k / 2) x (k % 2) := by
  refine (lb1.y h ⟨?_, ?_⟩ ?_ ?_ ?_).k (by omega)
  · rw [show k.toNat / 2 = (k / 2).toNat by omega]; exact hP
  · rw [show k.toNat / 2 = (k / 2).toNat by omega, show k.toNat % 2 = (k % 2).toNat by omega, ← hx]; exact e
  · omega
  · rw [show k.toNat / 2 = (k / 2).toNat by omega, show k.toNat % 2 = (k % 2).toNat by omega]; exact hx
  · omega
/-! a day of the reference -/
def RN (t : TS) : Nat := (tA t 69 1).toNat
def RHp (t : TS) (p : Int) : Int := hoF (fun s => tA t 69 (32 + 5 * s)) p (RN t)
theorem rh_b (t : TS) (p : Int) : -1 ≤ RHp t p ∧ RHp t p ≤ (RN t : Int) - 1 := hoF_b _ _ _
def GRp (t u : TS) (y : GPU) : Prop := RPt u = y ∧ AWp u ∧ OA u 69 = OA t 69 ∧ tA u 69 1 = tA t 69 1 ∧ tI u 68 4 = tI t 68 4
theorem GRp.rf {t : TS} (h : AWp t) : GRp t t (RPt t) := ⟨rfl, h, rfl, rfl, rfl⟩
theorem GRp.mv {t u v : TS} {y : GPU} (h : GRp t u y) (h4 : tI v 68 4 = tI u 68 4) (h1 : tA v 69 1 = tA u 69 1) (d : Dq u v) (hA : ∀ s : Nat, tA v 69 (32 + 5 * s) = tA u 69 (32 + 5 * s)) (hB : ∀ s : Nat, tA v 69 (33 + 5 * s) = tA u 69 (33 + 5 * s)) : GRp t v y := by
  obtain ⟨a1, a2, a3, a4, a5⟩ := h
  refine ⟨?_, ?_, (OA_dq d).trans a3, h1.trans a4, h4.trans a5⟩
  · rw [← a1]
    unfold RPt
    rw [h4]
    congr 1
    · funext s; rw [hA]
    · funext s; rw [hB]
  · unfold AWp
    rw [h4, hA]
    exact a2
theorem GRp.fr {S : List (Nat × Nat)} {t u v : TS} {y : GPU} (h : GRp t u y) (f : Fr S u v) (h4 : (68, 4) ∉ S) (h69 : (69, 100) ∉ S) : GRp t v y := h.mv (f.1 _ _ h4) (f.2.1 _ h69 1) (fun i _ _ _ => f.2.1 _ h69 i) (fun s => f.2.1 _ h69 _) (fun s => f.2.1 _ h69 _)
theorem GRp.u {t u v : TS} {y : GPU} {i : Nat} {z : Int} (h : GRp t u y) (e : v = uA u 69 i z) (hi : i = 0 ∨ i = 2) : GRp t v y := by
  subst e
  refine h.mv rfl (by rw [tA_uA, if_neg (by omega)]) (fun j a b c => by rw [tA_uA, if_neg (by omega)]) (fun s => by rw [tA_uA, if_neg (by omega)]) (fun s => by rw [tA_uA, if_neg (by omega)])
theorem lr_fe {t u : TS} {y : GPU} {p r : Int} (ok : OK u) (h : GRp t u y) (hr : 0 ≤ r ∧ r ≤ 3) (hp : 3 * r ≤ p ∧ p < 3 * r + 3) (hq : ∀ q : Int, 3 * r ≤ q → q < p → 0 ≤ RHp u q) (hn : RHp u p < 0) : feF (HF y.1 (tA t 69 1).toNat) r = p := by
  obtain ⟨a1, a2, a3, a4, a5⟩ := h
  have e : ∀ q : Int, 0 ≤ q → q < 12 → HF y.1 (tA t 69 1).toNat q.toNat = RHp u q := by
    intro q h0 h1
    show hoF y.1 ((q.toNat : Nat) : Int) _ = _
    rw [Int.toNat_of_nonneg h0, ← a1, ← ho_aw ok a2 h1, ← a4]
    rfl
  refine (feF_e (Or.inl ⟨by omega, by omega, ?_, fun q h1 h2 => ?_⟩)).symm
  · rw [e p (by omega) (by omega)]
    have := rh_b u p
    omega
  · rw [e q (by omega) (by omega)]
    have := hq q (by omega) h2
    omega
theorem lr_0 {t u v : TS} {y : GPU} {r : Int} (ok : OK u) (h : GRp t u y) (hr : 0 ≤ r ∧ r ≤ 3) (hq : ∀ q : Int, 3 * r ≤ q → q < 3 * r + 3 → 0 ≤ RHp u q) (f : ∀ i, tA v 69 i = tA u 69 i) (f4 : tI v 68 4 = tI u 68 4) : GRp t v (lyF (tA t 69 1).toNat (OA t 69) r y) := by
  have g := h.mv f4 (f 1) (fun i _ _ _ => f i) (fun s => f _) (fun s => f _)
  obtain ⟨a1, a2, a3, a4, a5⟩ := h
  have k : feF (HF y.1 (tA t 69 1).toNat) r = -1 := by
    refine (feF_e (Or.inr ⟨rfl, fun q h1 h2 => ?_⟩)).symm
    show ¬ hoF y.1 ((q.toNat : Nat) : Int) _ = -1
    rw [Int.toNat_of_nonneg (by omega), ← a1, ← ho_aw ok a2 (by omega), ← a4]
    have := hq q (by omega) (by omega)
    unfold RHp RN at this
    omega
  unfold lyF
  rw [if_pos k]
  exact g
theorem lr_a {t u v : TS} {y : GPU} {p r best least way k : Int} (ok : OK u) (h : GRp t u y) (hr : 0 ≤ r ∧ r ≤ 3) (hp : 3 * r ≤ p ∧ p < 3 * r + 3) (hq : ∀ q : Int, 3 * r ≤ q → q < p → 0 ≤ RHp u q) (hn : RHp u p < 0) (l : lb1 (fun s w => OA u 69 s p.toNat w) (RPt u).1 k.toNat best least way) (hk : k = 2 * tA u 69 1) (hb : best = -1) (f : ∀ i, tA v 69 i = tA u 69 i) (f4 : tI v 68 4 = tI u 68 4) : GRp t v (lyF (tA t 69 1).toNat (OA t 69) r y) := by
  have g := h.mv f4 (f 1) (fun i _ _ _ => f i) (fun s => f _) (fun s => f _)
  have fe := lr_fe ok h hr hp hq hn
  obtain ⟨a1, a2, a3, a4, a5⟩ := h
  unfold lyF
  rw [fe, if_neg (by omega)]
  have e1 := l.1
  rw [a1, a3, show k.toNat = 2 * (tA t 69 1).toNat by omega] at e1
  rw [if_pos (by rw [← hb]; exact e1.symm)]
  exact g
theorem lr_b {t u v : TS} {y : GPU} {p r best least way k : Int} (ok : OK u) (h : GRp t u y) (hr : 0 ≤ r ∧ r ≤ 3) (hp : 3 * r ≤ p ∧ p < 3 * r + 3) (hq : ∀ q : Int, 3 * r ≤ q → q < p → 0 ≤ RHp u q) (hn : RHp u p < 0) (l : lb1 (fun s w => OA u 69 s p.toNat w) (RPt u).1 k.toNat best least way) (hk : k = 2 * tA u 69 1) (hb : 0 ≤ best) (f : ∀ i, tA v 69 i = if i = 33 + 5 * best.toNat then way else if i = 32 + 5 * best.toNat then p else tA u 69 i) (f4 : tI v 68 4 = tI u 68 4) : GRp t v (lyF (tA t 69 1).toNat (OA t 69) r y) := by
  have fe := lr_fe ok h hr hp hq hn
  have lr := lbF_r (fun s w => OA u 69 s p.toNat w) (RPt u).1 k.toNat
  obtain ⟨e1, e2, e3⟩ := l
  obtain ⟨a1, a2, a3, a4, a5⟩ := h
  have pb : (RPt u).1 best.toNat = 12 := by
    rw [e1]
    rcases lr.1 with q | q
    · omega
    · exact q.2.2
  have nb := (RPt_12.mp pb).2
  have hn12 := (ok.a (ax_69 nr_1)).2
  have hb12 : best < 12 := by
    rcases lr.1 with q | q <;> omega
  rw [a1, a3, show k.toNat = 2 * (tA t 69 1).toNat by omega] at e1 e3
  have fA : ∀ s : Nat, tA v 69 (32 + 5 * s) = if s = best.toNat then p else tA u 69 (32 + 5 * s) := by
    intro s
    rw [f, if_neg (by omega)]
    by_cases q : s = best.toNat
    · rw [if_pos q, if_pos (by omega)]
    · rw [if_neg q, if_neg (by omega)]
  have fB : ∀ s : Nat, tA v 69 (33 + 5 * s) = if s = best.toNat then way else tA u 69 (33 + 5 * s) := by
    intro s
    rw [f]
    by_cases q : s = best.toNat
    · rw [if_pos q, if_pos (by omega)]
    · rw [if_neg q, if_neg (by omega), if_neg (by omega)]
  refine ⟨?_, ?_, ?_, ?_, f4.trans a5⟩
  · unfold lyF
    rw [fe, if_neg (by omega), if_neg (by rw [← e1]; omega), ← e1, ← e3, ← a1]
    unfold RPt
    rw [f4]
    congr 1
    · funext s
      show _ = upF _ _ _ s
      unfold upF
      rw [fA]
      by_cases q : s = best.toNat
      · rw [if_pos q, if_pos q, if_neg (by omega)]
      · rw [if_neg q, if_neg q]
    · funext s
      show _ = upF _ _ _ s
      unfold upF
      rw [fB]
  · unfold AWp
    rw [f4, fA]
    rcases a2 with q | q
    · exact Or.inl q
    · by_cases z : tI u 68 4 = -1
      · exact Or.inl z
      · have r4 := ok.f fe_68_4
        rw [if_neg (by omega)]
        exact Or.inr q
  · rw [← a3]
    refine OA_cg (fun i _ _ c => ?_)
    rw [f, if_neg (by omega), if_neg (by omega)]
  · rw [f, if_neg (by omega), if_neg (by omega)]
    exact a4
theorem tr_0 {t u : TS} {y : GPU} {p : Int} (ok : OK u) (h : GRp t u y) (hp : 0 ≤ p ∧ p < 12) (hn : RHp u p < 0) : GRp t u (tuF (tA t 69 1).toNat p y) := by
  obtain ⟨a1, a2, a3, a4, a5⟩ := h
  have e : hoF y.1 p (tA t 69 1).toNat = RHp u p := by
    rw [← a1, ← ho_aw ok a2 hp.2, ← a4]
    rfl
  have b := rh_b u p
  unfold tuF
  rw [e, if_pos (by omega)]
  exact ⟨a1, a2, a3, a4, a5⟩
theorem tr_1 {t u v : TS} {y : GPU} {p s : Int} (ok : OK u) (h : GRp t u y) (hp : 0 ≤ p ∧ p < 12) (hs : s = RHp u p) (hn : ¬ s < 0) (hv : v = uA u 69 (33 + 5 * s.toNat) (1 - tA u 69 (33 + 5 * s.toNat))) : GRp t v (tuF (tA t 69 1).toNat p y) := by
  obtain ⟨a1, a2, a3, a4, a5⟩ := h
  have e : hoF y.1 p (tA t 69 1).toNat = RHp u p := by
    rw [← a1, ← ho_aw ok a2 hp.2, ← a4]
    rfl
  have hn12 := (ok.a (ax_69 nr_1)).2
  have hb := rh_b u p
  unfold RN at hb
  have f : ∀ i, tA v 69 i = if i = 33 + 5 * s.toNat then 1 - tA u 69 (33 + 5 * s.toNat) else tA u 69 i := by
    intro i
    rw [hv, tA_uA]
    by_cases q : i = 33 + 5 * s.toNat
    · rw [if_pos ⟨rfl, q⟩, if_pos q]
    · rw [if_neg (fun k => q k.2), if_neg q]
  have f4 : tI v 68 4 = tI u 68 4 := by rw [hv]; rfl
  refine ⟨?_, ?_, ?_, ?_, f4.trans a5⟩
  · unfold tuF
    rw [e, ← hs, if_neg (by omega), ← a1]
    unfold RPt
    rw [f4]
    congr 1
    · funext k
      rw [f, if_neg (show ¬ 32 + 5 * k = 33 + 5 * s.toNat by omega)]
    · funext k
      show _ = upF _ _ _ k
      unfold upF
      rw [f]
      by_cases q : k = s.toNat
      · rw [if_pos q, if_pos (by omega)]
      · rw [if_neg q, if_neg (by omega)]
  · unfold AWp
    rw [f4, f, if_neg (by omega)]
    exact a2
  · rw [← a3]
    refine OA_cg (fun i _ _ c => ?_)
    rw [f, if_neg (by omega)]
  · rw [f, if_neg (by omega)]
    exact a4
theorem gr_d0 {t u : TS} {z w : Int} {n : Nat} {O : Nat → Nat → Nat → Int} {y : GPU} (h : GRp t u (lyF n O (drF (znF z) % 4) y)) (e : ¬ drF (znF (znF z)) % 100 < w) : GRp t u (dyF n O w z y) := by
  unfold dyF
  rw [if_neg e]
  exact h
theorem gr_d1 {t u : TS} {z w : Int} {n : Nat} {O : Nat → Nat → Nat → Int} {y : GPU} (h : GRp t u (tuF n (drF (znF (znF (znF z))) % 12) (lyF n O (drF (znF z) % 4) y))) (e : drF (znF (znF z)) % 100 < w) : GRp t u (dyF n O w z y) := by
  unfold dyF
  rw [if_pos e]
  exact h
theorem gr_s {t u v : TS} {w z z0 : Int} {k : Nat} (h : GRp t u (dysF (tA t 69 1).toNat (OA t 69) w z0 k (RPt t))) (h' : GRp u v (dyF (tA u 69 1).toNat (OA u 69) w z (RPt u))) (hz : z = zdsF k z0 w) : GRp t v (dysF (tA t 69 1).toNat (OA t 69) w z0 (k + 1) (RPt t)) := by
  obtain ⟨a1, a2, a3, a4, a5⟩ := h
  obtain ⟨c1, c2, c3, c4, c5⟩ := h'
  refine ⟨?_, c2, c3.trans a3, c4.trans a4, c5.trans a5⟩
  rw [c1, a1, a3, a4, hz]
  rfl
/-! reading off -/
theorem rh_e {t : TS} (ok : OK t) (h : AWp t) {p : Int} (hp : 0 ≤ p ∧ p < 12) : RHp t p = HF (RPt t).1 (tA t 69 1).toNat p.toNat := by
  show _ = hoF (RPt t).1 ((p.toNat : Nat) : Int) _
  rw [Int.toNat_of_nonneg hp.1, ← ho_aw ok h hp.2]
  rfl
def LA (t : TS) (c : Nat) : Nat → Int := fun s => tA t c (30 + 5 * s)
def RA (t : TS) (c : Nat) : Nat → Int := fun s => tA t c (31 + 5 * s)
def AA (t : TS) (c : Nat) : Nat → Int := fun s => tA t c (32 + 5 * s)
theorem falls_s {hv H : Nat → Int} {i n w q : Int} (hi : 0 ≤ i ∧ i < 12) (hq : q = H i.toNat) (e1 : ¬ q = -1) (e2 : ¬ (0 < n ∧ 2 * w < hv q.toNat)) : faS hv H (12 - i).toNat i.toNat n w = faS hv H (12 - (i + 1)).toNat (i + 1).toNat (n + 1) (hv q.toNat) := by
  subst hq
  exact faS_1 hi e1 e2
