/-! ===== the table's views ===== -/
def ofF (D W : Nat → Int) (s p u : Int) : Int := abF (D ((s * 4 + p / 3) * 2 + u).toNat - W (2 * p).toNat) + abF (D ((s * 4 + p / 3) * 2 + (1 - u)).toNat - W (2 * p + 1).toNat)
def OC (t : TS) (b : Nat) : Nat → Nat → Nat → Int := fun s p u => ofF (tA t (b + 8)) (tA t (b + 7)) s p u
theorem oc_e {t : TS} {b : Nat} {s p u : Int} (h : 0 ≤ s ∧ 0 ≤ p ∧ 0 ≤ u) : ofF (tA t (b + 8)) (tA t (b + 7)) s p u = OC t b s.toNat p.toNat u.toNat := by
  unfold OC
  rw [Int.toNat_of_nonneg h.1, Int.toNat_of_nonneg h.2.1, Int.toNat_of_nonneg h.2.2]
theorem ab_i {x z : Int} (h : (0 ≤ x ∧ z = x) ∨ (x < 0 ∧ z = 0 - x)) : z = abF x := by
  unfold abF
  split <;> omega
def CP (t : TS) (b : Nat) : GPU := (tA t (b + 4), tA t (b + 5))
def HCt (t : TS) (b : Nat) : Prop := HC (tA t (b + 6)) (tA t (b + 4)) (tI t b 10).toNat
theorem pic_s {O : Nat → Nat → Nat → Int} {U H : Nat → Int} {p acc x : Int} (hp : 0 ≤ p) (h : acc = picH O U H p.toNat) (hx : (H p.toNat = -1 ∧ x = 198) ∨ (¬ H p.toNat = -1 ∧ x = O (H p.toNat).toNat p.toNat (U (H p.toNat).toNat).toNat)) : acc + x = picH O U H (p + 1).toNat := by
  rw [show (p + 1).toNat = p.toNat + 1 by omega]
  unfold picH
  rw [← h]
  rcases hx with k | k
  · rw [if_pos k.1, k.2]
  · rw [if_neg k.1, k.2]
theorem ma_s {L R U H : Nat → Int} {p acc x : Int} (hp : 0 ≤ p) (h : acc = maH L R U H p.toNat) (hx : (mtP L R U H p.toNat ∧ x = acc + 1) ∨ (¬ mtP L R U H p.toNat ∧ x = acc)) : x = maH L R U H (p + 1).toNat := by
  rw [show (p + 1).toNat = p.toNat + 1 by omega]
  unfold maH mtI
  unfold mtP at hx
  rw [← h]
  rcases hx with k | k
  · rw [if_pos k.1, k.2]
  · rw [if_neg k.1, k.2, Int.add_zero]
theorem ph_s {H : Nat → Int} {p acc x : Int} (hp : 0 ≤ p) (h : acc = phH H p.toNat) (hx : (H p.toNat = -1 ∧ x = acc) ∨ (¬ H p.toNat = -1 ∧ x = fZ (fun x y => x ||| y) acc (fZ (fun x y => x <<< (y &&& 31)) 1 p))) : x = phH H (p + 1).toNat := by
  rw [show (p + 1).toNat = p.toNat + 1 by omega]
  unfold phH
  rw [← h, Int.toNat_of_nonneg hp]
  rcases hx with k | k
  · rw [if_pos k.1, k.2]
  · rw [if_neg k.1, k.2]
def bc1 (x : Int) : Int := nrm (x - fZ (fun x y => x &&& y) (fZ (fun x y => (x.toUInt32 >>> (y.toUInt32 &&& Int32.toUInt32 31)).toInt32) x 1) 1431655765)
def bc2 (x : Int) : Int := nrm (fZ (fun x y => x &&& y) x 858993459 + fZ (fun x y => x &&& y) (fZ (fun x y => (x.toUInt32 >>> (y.toUInt32 &&& Int32.toUInt32 31)).toInt32) x 2) 858993459)
def bc3 (x : Int) : Int := fZ (fun x y => x &&& y) (nrm (x + fZ (fun x y => (x.toUInt32 >>> (y.toUInt32 &&& Int32.toUInt32 31)).toInt32) x 4)) 252645135
def bc4 (x : Int) : Int := nrm (x + fZ (fun x y => (x.toUInt32 >>> (y.toUInt32 &&& Int32.toUInt32 31)).toInt32) x 8)
def bc5 (x : Int) : Int := fZ (fun x y => x &&& y) (nrm (x + fZ (fun x y => (x.toUInt32 >>> (y.toUInt32 &&& Int32.toUInt32 31)).toInt32) x 16)) 63
def bcF (x : Int) : Int := bc5 (bc4 (bc3 (bc2 (bc1 x))))
/-! the best laying, in steps -/
theorem lb1.k {O : Nat → Nat → Int} {P : Nat → Int} {k k' : Nat} {which least way : Int} (h : lb1 O P k which least way) (e : k = k') : lb1 O P k' which least way := e ▸ h
theorem lb1.sk {O : Nat → Nat → Int} {P : Nat → Int} {s which least way : Int} (h0 : 0 ≤ s) (h : lb1 O P (2 * s.toNat) which least way) (e : ¬ P s.toNat = 12) : lb1 O P (2 * (s + 1).toNat) which least way := by
  have a := lb1.n h (fun q => e (by have := q.1; rw [show 2 * s.toNat / 2 = s.toNat by omega] at this; exact this))
  have d := lb1.n a (fun q => e (by have := q.1; rw [show (2 * s.toNat + 1) / 2 = s.toNat by omega] at this; exact this))
  exact d.k (by omega)
theorem lb1.nI {O : Nat → Nat → Int} {P : Nat → Int} {s u which least way : Int} (h0 : 0 ≤ s ∧ 0 ≤ u ∧ u ≤ 1) (h : lb1 O P (2 * s.toNat + u.toNat) which least way) (e : ¬ which = -1) {x : Int} (hx : x = O s.toNat u.toNat) (e2 : ¬ x < least) : lb1 O P (2 * s.toNat + (u + 1).toNat) which least way := by
  refine (lb1.n h (fun q => ?_)).k (by omega)
  rw [show (2 * s.toNat + u.toNat) / 2 = s.toNat by omega, show (2 * s.toNat + u.toNat) % 2 = u.toNat by omega, ← hx] at q
  rcases q.2 with k | k
  · exact e k
  · exact e2 k
theorem lb1.yI {O : Nat → Nat → Int} {P : Nat → Int} {s u which least way : Int} (h0 : 0 ≤ s ∧ 0 ≤ u ∧ u ≤ 1) (h : lb1 O P (2 * s.toNat + u.toNat) which least way) (hP : P s.toNat = 12) {x : Int} (hx : x = O s.toNat u.toNat) (e : which = -1 ∨ x < least) : lb1 O P (2 * s.toNat + (u + 1).toNat) s x u := by
  refine (lb1.y h ⟨?_, ?_⟩ ?_ ?_ ?_).k (by omega)
  · rw [show (2 * s.toNat + u.toNat) / 2 = s.toNat by omega]; exact hP
  · rw [show (2 * s.toNat + u.toNat) / 2 = s.toNat by omega, show (2 * s.toNat + u.toNat) % 2 = u.toNat by omega, ← hx]; exact e
  · omega
  · rw [show (2 * s.toNat + u.toNat) / 2 = s.toNat by omega, show (2 * s.toNat + u.toNat) % 2 = u.toNat by omega]; exact hx
  · omega
def lbT (t : TS) (b : Nat) (p : Int) : Int × Int × Int := lbF (fun s u => OC t b s p.toNat u) (tA t (b + 4)) (2 * (tI t b 10).toNat)
def LBp (t u : TS) (b : Nat) (p : Int) : Prop := ((lbT t b p).1 = -1 ∧ tA u (b + 4) = tA t (b + 4) ∧ tA u (b + 5) = tA t (b + 5) ∧ tA u (b + 6) = tA t (b + 6)) ∨ (¬ (lbT t b p).1 = -1 ∧ tA u (b + 4) = upF (tA t (b + 4)) (lbT t b p).1.toNat p ∧ tA u (b + 5) = upF (tA t (b + 5)) (lbT t b p).1.toNat (lbT t b p).2.2 ∧ tA u (b + 6) = mvH (tA t (b + 6)) (tA t (b + 4)) (lbT t b p).1.toNat p)
theorem lbp_0 {t : TS} {b : Nat} {p which least way s : Int} (h : lb1 (fun s u => OC t b s p.toNat u) (tA t (b + 4)) (2 * s.toNat) which least way) (hs : s = tI t b 10) (e : which = -1) : LBp t t b p := by
  subst hs
  exact Or.inl ⟨by rw [← e]; exact h.1.symm, rfl, rfl, rfl⟩
theorem lbp_1 {t v u : TS} {b : Nat} {p which least way s : Int} (h : lb1 (fun s u => OC t b s p.toNat u) (tA t (b + 4)) (2 * s.toNat) which least way) (hs : s = tI t b 10) (e : ¬ which = -1) (h4 : tA v (b + 4) = upF (tA t (b + 4)) which.toNat p) (h6 : tA v (b + 6) = mvH (tA t (b + 6)) (tA t (b + 4)) which.toNat p) (f5 : ∀ i, tA v (b + 5) i = tA t (b + 5) i) (hu : u = uA v (b + 5) which.toNat way) : LBp t u b p := by
  subst hs
  have e1 : (lbT t b p).1 = which := h.1.symm
  have e2 : (lbT t b p).2.2 = way := h.2.2.symm
  refine Or.inr ⟨by rw [e1]; exact e, ?_, ?_, ?_⟩
  · rw [e1, ← h4, hu]
    funext i
    rw [tA_uA, if_neg (by omega)]
  · rw [e1, e2, hu]
    funext i
    rw [tA_uA, f5]
    unfold upF
    by_cases q : i = which.toNat
    · rw [if_pos ⟨rfl, q⟩, if_pos q]
    · rw [if_neg (fun k => q k.2), if_neg q]
  · rw [e1, ← h6, hu]
    funext i
    rw [tA_uA, if_neg (by omega)]
def TUp (t u : TS) (b : Nat) (p : Int) : Prop := tA u (b + 5) = if tA t (b + 6) p.toNat = -1 then tA t (b + 5) else upF (tA t (b + 5)) (tA t (b + 6) p.toNat).toNat (1 - tA t (b + 5) (tA t (b + 6) p.toNat).toNat)
theorem tup_0 {t : TS} {b : Nat} {p h : Int} (e : h = tA t (b + 6) p.toNat) (e2 : h = -1) : TUp t t b p := by
  unfold TUp
  rw [← e, if_pos e2]
theorem tup_1 {t u : TS} {b : Nat} {p h x : Int} (e : h = tA t (b + 6) p.toNat) (e2 : ¬ h = -1) (hx : x = tA t (b + 5) h.toNat) (hu : u = uA t (b + 5) h.toNat (1 - x)) : TUp t u b p := by
  unfold TUp
  rw [← e, if_neg e2, ← hx, hu]
  funext i
  rw [tA_uA]
  unfold upF
  by_cases q : i = h.toNat
  · rw [if_pos ⟨rfl, q⟩, if_pos q]
  · rw [if_neg (fun k => q k.2), if_neg q]
/-! a day, in steps -/
def GLp (t u : TS) (b : Nat) (y : GPU) : Prop := CP u b = y ∧ HCt u b ∧ OC u b = OC t b ∧ tI u b 10 = tI t b 10
theorem GLp.rf {t : TS} {b : Nat} (h : HCt t b) : GLp t t b (CP t b) := ⟨rfl, h, rfl, rfl⟩
theorem GLp.fr {S : List (Nat × Nat)} {t u v : TS} {b : Nat} {y : GPU} (h : GLp t u b y) (f : Fr S u v) (h4 : (b + 4, 100) ∉ S) (h5 : (b + 5, 100) ∉ S) (h6 : (b + 6, 100) ∉ S) (h7 : (b + 7, 100) ∉ S) (h8 : (b + 8, 100) ∉ S) (h10 : (b, 10) ∉ S) : GLp t v b y := by
  obtain ⟨a1, a2, a3, a4⟩ := h
  have e4 := funext (f.2.1 _ h4)
  have e5 := funext (f.2.1 _ h5)
  have e6 := funext (f.2.1 _ h6)
  have e7 := funext (f.2.1 _ h7)
  have e8 := funext (f.2.1 _ h8)
  have e10 := f.1 _ _ h10
  refine ⟨?_, ?_, ?_, by rw [e10]; exact a4⟩
  · rw [← a1]; unfold CP; rw [e4, e5]
  · unfold HCt; rw [e4, e6, e10]; exact a2
  · rw [← a3]; unfold OC; rw [e7, e8]
theorem GLp.uI {t u v : TS} {b : Nat} {y : GPU} {c f : Nat} {z : Int} (h : GLp t u b y) (e : v = uI u c f z) (hf : ¬ (b = c ∧ 10 = f)) : GLp t v b y := by
  subst e
  obtain ⟨a1, a2, a3, a4⟩ := h
  refine ⟨a1, ?_, a3, by rw [tI_uI, if_neg hf]; exact a4⟩
  unfold HCt
  rw [tI_uI, if_neg hf]
  exact a2
theorem gl_l0 {t u : TS} {b : Nat} {y : GPU} {r fe : Int} (h : GLp t u b y) (hr : 0 ≤ r ∧ r ≤ 3) (hf : fe = feF (tA u (b + 6)) r) (e : fe = -1) : GLp t u b (lyF (tI t b 10).toNat (OC t b) r y) := by
  obtain ⟨a1, a2, a3, a4⟩ := h
  have k : feF (HF y.1 (tI t b 10).toNat) r = feF (tA u (b + 6)) r := by
    refine (feF_congr hr (fun q hq => ?_)).symm
    rw [a2.1 q hq, ← a1, a4]
    rfl
  unfold lyF
  rw [k, ← hf, if_pos e]
  exact ⟨a1, a2, a3, a4⟩
theorem gl_l1 {S : List (Nat × Nat)} {t u v : TS} {b : Nat} {y : GPU} {r fe : Int} (h : GLp t u b y) (hr : 0 ≤ r ∧ r ≤ 3) (hf : fe = feF (tA u (b + 6)) r) (e : ¬ fe = -1) (l : LBp u v b fe) (f : Fr S u v) (h7 : (b + 7, 100) ∉ S) (h8 : (b + 8, 100) ∉ S) (h10 : (b, 10) ∉ S) : GLp t v b (lyF (tI t b 10).toNat (OC t b) r y) := by
  obtain ⟨a1, a2, a3, a4⟩ := h
  have e7 := funext (f.2.1 _ h7)
  have e8 := funext (f.2.1 _ h8)
  have e10 := f.1 _ _ h10
  have k : feF (HF y.1 (tI t b 10).toNat) r = feF (tA u (b + 6)) r := by
    refine (feF_congr hr (fun q hq => ?_)).symm
    rw [a2.1 q hq, ← a1, a4]
    rfl
  have fr := feF_r (H := tA u (b + 6)) hr
  rw [← hf] at fr
  have eo : OC v b = OC t b := by rw [← a3]; unfold OC; rw [e7, e8]
  have en : tI v b 10 = tI t b 10 := e10.trans a4
  have el : lbT u b fe = lbF (fun s u => OC t b s fe.toNat u) y.1 (2 * (tI t b 10).toNat) := by
    unfold lbT
    rw [a3, a4, ← a1]
    rfl
  have w := lbF_r (fun s u => OC t b s fe.toNat u) y.1 (2 * (tI t b 10).toNat)
  unfold lyF
  rw [k, ← hf, if_neg e, ← el]
  rw [← el] at w
  rcases l with l | l
  · obtain ⟨l1, l4, l5, l6⟩ := l
    rw [if_pos l1]
    refine ⟨?_, ?_, eo, en⟩
    · rw [← a1]; unfold CP; rw [l4, l5]
    · unfold HCt; rw [l4, l6, e10]; exact a2
  · obtain ⟨l1, l4, l5, l6⟩ := l
    rw [if_neg l1]
    refine ⟨?_, ?_, eo, en⟩
    · rw [← a1]; unfold CP; rw [l4, l5]
    · unfold HCt
      rw [l4, l6, e10]
      refine HC.mv a2 (by rcases w.1 with x | x <;> omega) (by omega) (fun _ => Or.inl ?_)
      rcases fr with x | x
      · exact absurd x e
      · exact x.2.2
theorem gl_t {S : List (Nat × Nat)} {t u v : TS} {b : Nat} {y : GPU} {p : Int} (h : GLp t u b y) (hp : 0 ≤ p ∧ p < 12) (l : TUp u v b p) (f : Fr S u v) (h4 : (b + 4, 100) ∉ S) (h6 : (b + 6, 100) ∉ S) (h7 : (b + 7, 100) ∉ S) (h8 : (b + 8, 100) ∉ S) (h10 : (b, 10) ∉ S) : GLp t v b (tuF (tI t b 10).toNat p y) := by
  obtain ⟨a1, a2, a3, a4⟩ := h
  have e4 := funext (f.2.1 _ h4)
  have e6 := funext (f.2.1 _ h6)
  have e7 := funext (f.2.1 _ h7)
  have e8 := funext (f.2.1 _ h8)
  have e10 := f.1 _ _ h10
  have k : hoF y.1 p (tI t b 10).toNat = tA u (b + 6) p.toNat := by
    rw [a2.1 p.toNat (by omega), Int.toNat_of_nonneg hp.1, ← a1, a4]
    rfl
  refine ⟨?_, ?_, ?_, e10.trans a4⟩
  · unfold tuF
    rw [k, ← a1]
    unfold TUp at l
    unfold CP
    rw [e4, l]
    by_cases q : tA u (b + 6) p.toNat = -1
    · rw [if_pos q, if_pos q]
    · rw [if_neg q, if_neg q]
  · unfold HCt; rw [e4, e6, e10]; exact a2
  · rw [← a3]; unfold OC; rw [e7, e8]
theorem gl_d0 {t u : TS} {b : Nat} {z w : Int} {n : Nat} {O : Nat → Nat → Nat → Int} {y : GPU} (h : GLp t u b (lyF n O (drF (znF z) % 4) y)) (e : ¬ drF (znF (znF z)) % 100 < w) : GLp t u b (dyF n O w z y) := by
  unfold dyF
  rw [if_neg e]
  exact h
theorem gl_d1 {t u : TS} {b : Nat} {z w : Int} {n : Nat} {O : Nat → Nat → Nat → Int} {y : GPU} (h : GLp t u b (tuF n (drF (znF (znF (znF z))) % 12) (lyF n O (drF (znF z) % 4) y))) (e : drF (znF (znF z)) % 100 < w) : GLp t u b (dyF n O w z y) := by
  unfold dyF
  rw [if_pos e]
  exact h
theorem gl_s {t u v : TS} {b : Nat} {w z z0 : Int} {k : Nat} (h : GLp t u b (dysF (tI t b 10).toNat (OC t b) w z0 k (CP t b))) (h' : GLp u v b (dyF (tI u b 10).toNat (OC u b) w z (CP u b))) (hz : z = zdsF k z0 w) : GLp t v b (dysF (tI t b 10).toNat (OC t b) w z0 (k + 1) (CP t b)) := by
  obtain ⟨a1, a2, a3, a4⟩ := h
  obtain ⟨c1, c2, c3, c4⟩ := h'
  refine ⟨?_, c2, c3.trans a3, c4.trans a4⟩
  rw [c1, a1, a3, a4, hz]
  rfl
/-! change, falling -/
def gnF (O : Nat → Nat → Nat → Int) (P U : Nat → Int) (x y : Nat) : Int := if P x < 12 ∧ P y < 12 then (O x (P x).toNat (U x).toNat + O y (P y).toNat (U y).toNat) - (O x (P y).toNat (U x).toNat + O y (P x).toNat (U y).toNat) else 0
def faS (hv H : Nat → Int) : Nat → Nat → Int → Int → Int
  | 0, _, n, _ => n
  | k + 1, i, n, w => if H i = -1 then n else if 0 < n ∧ 2 * w < hv (H i).toNat then n else faS hv H k (i + 1) (n + 1) (hv (H i).toNat)
def flF (hv H : Nat → Int) (p : Nat) : Int := faS hv H (12 - p) p 0 0
theorem faS_0 {hv H : Nat → Int} {i n w : Int} {k : Nat} (hi : 0 ≤ i ∧ i < 12) (e : (H i.toNat = -1) ∨ (¬ H i.toNat = -1 ∧ 0 < n ∧ 2 * w < hv (H i.toNat).toNat)) (hk : k = (12 - i).toNat) : faS hv H k i.toNat n w = n := by
  obtain ⟨m, rfl⟩ : ∃ m, k = m + 1 := ⟨k - 1, by omega⟩
  unfold faS
  rcases e with e | e
  · rw [if_pos e]
  · rw [if_neg e.1, if_pos e.2]
theorem faS_1 {hv H : Nat → Int} {i n w : Int} (hi : 0 ≤ i ∧ i < 12) (e1 : ¬ H i.toNat = -1) (e2 : ¬ (0 < n ∧ 2 * w < hv (H i.toNat).toNat)) : faS hv H (12 - i).toNat i.toNat n w = faS hv H (12 - (i + 1)).toNat (i + 1).toNat (n + 1) (hv (H i.toNat).toNat) := by
  rw [show (12 - i).toNat = (12 - (i + 1)).toNat + 1 by omega]
  show (if _ then _ else _) = _
  rw [if_neg e1, if_neg e2, show (i + 1).toNat = i.toNat + 1 by omega]
theorem fa_n {hv H : Nat → Int} {i n w q v : Int} (hi : 0 ≤ i ∧ i < 12) (hq : q = H i.toNat) (e1 : ¬ q = -1) (hv' : v = hv q.toNat) (e2 : ¬ (0 < n ∧ 2 * w < v)) : faS hv H (12 - (i + 1)).toNat (i + 1).toNat (n + 1) v = faS hv H (12 - i).toNat i.toNat n w := by
  subst hq hv'
  exact (faS_1 hi e1 e2).symm
theorem faS_e {hv H : Nat → Int} {i n w : Int} (hi : 12 ≤ i) : faS hv H (12 - i).toNat i.toNat n w = n := by
  rw [show (12 - i).toNat = 0 by omega]
  rfl
theorem faS_cg {hv hv' H H' : Nat → Int} (h : ∀ p, p < 12 → H p = H' p ∧ (¬ H p = -1 → hv (H p).toNat = hv' (H p).toNat)) : ∀ (k i : Nat) (n w : Int), i + k ≤ 12 → faS hv H k i n w = faS hv' H' k i n w
  | 0, _, _, _, _ => rfl
  | k + 1, i, n, w, hk => by
    obtain ⟨h1, h2⟩ := h i (by omega)
    unfold faS
    rw [← h1]
    by_cases e : H i = -1
    · rw [if_pos e, if_pos e]
    · rw [if_neg e, if_neg e, ← h2 e, faS_cg h k (i + 1) _ _ (by omega)]
def hvT (t : TS) (b : Nat) : Nat → Int := fun s => hvF (tA t (b + 1) s) (tA t (b + 2) s) (tA t (b + 3) s)
/-! what is read off a state of stones -/
def picG (n : Nat) (O : Nat → Nat → Nat → Int) (x : GPU) : Int := picH O x.2 (HF x.1 n) 12
def matG (n : Nat) (L R : Nat → Int) (x : GPU) : Int := maH L R x.2 (HF x.1 n) 11
def phG (n : Nat) (x : GPU) : Int := phH (HF x.1 n) 12
def cnG (n : Nat) (x : GPU) : Int := cnH (HF x.1 n) 12
theorem AgH_of {n : Nat} {x y : GPU} (h : Agr n x y) : AgH x.2 (HF x.1 n) y.2 (HF y.1 n) := by
  intro p hp
  rw [HF_congr h]
  refine ⟨rfl, fun e => ?_⟩
  have b := hoF_b y.1 p n
  exact (h _ (by show (hoF y.1 p n).toNat < n; have : ¬ hoF y.1 p n = -1 := e; omega)).2
theorem HF_b (P : Nat → Int) (n p : Nat) : HF P n p < (n : Int) ∧ -1 ≤ HF P n p := by
  have b := hoF_b P p n
  show hoF P p n < _ ∧ -1 ≤ hoF P p n
  omega
theorem picG_cg {n : Nat} {O O' : Nat → Nat → Nat → Int} {x y : GPU} (h : Agr n x y) (hO : AgO n O O') (hu : ∀ s, 0 ≤ x.2 s ∧ x.2 s ≤ 1) : picG n O x = picG n O' y := picH_congr (AgH_of h) (fun p _ => HF_b _ _ _) hu hO 12 (Nat.le_refl _)
theorem matG_cg {n : Nat} {L R L' R' : Nat → Int} {x y : GPU} (h : Agr n x y) (hL : ∀ s, s < n → L s = L' s ∧ R s = R' s) : matG n L R x = matG n L' R' y := maH_congr (AgH_of h) (fun p _ => HF_b _ _ _) hL 11 (Nat.le_refl _)
theorem phG_cg {n : Nat} {x y : GPU} (h : Agr n x y) : phG n x = phG n y := by
  unfold phG
  rw [HF_congr h]
theorem cnG_cg {n : Nat} {x y : GPU} (h : Agr n x y) : cnG n x = cnG n y := by
  unfold cnG
  rw [HF_congr h]
theorem flF_cg {n p : Nat} {hv hv' : Nat → Int} {x y : GPU} (h : Agr n x y) (hh : ∀ s, s < n → hv s = hv' s) (hp : p ≤ 12) : flF hv (HF x.1 n) p = flF hv' (HF y.1 n) p := by
  unfold flF
  rw [HF_congr h]
  refine faS_cg (fun q hq => ⟨rfl, fun e => hh _ ?_⟩) _ _ _ _ (by omega)
  have b := hoF_b y.1 q n
  show (hoF y.1 q n).toNat < n
  have : ¬ hoF y.1 q n = -1 := e
  omega
theorem HC.HF {H P : Nat → Int} {n : Nat} (h : HC H P n) (q : Nat) (hq : q < 12) : H q = HF P n q := h.1 q hq
theorem picC {t : TS} {b : Nat} (h : HCt t b) (O : Nat → Nat → Nat → Int) (hO : ∀ s p u, O s p u = OC t b s p u) (hu : ∀ s, 0 ≤ tA t (b + 5) s ∧ tA t (b + 5) s ≤ 1) : picH (OC t b) (tA t (b + 5)) (tA t (b + 6)) 12 = picG (tI t b 10).toNat O (CP t b) :=
  picH_congr (fun p hp => ⟨h.HF p hp, fun _ => rfl⟩) (fun p hp => by rw [h.HF p hp]; exact HF_b _ _ _) hu (fun s p u _ _ _ => (hO s p u).symm) 12 (Nat.le_refl _)
theorem matC {t : TS} {b : Nat} (h : HCt t b) : maH (tA t (b + 2)) (tA t (b + 3)) (tA t (b + 5)) (tA t (b + 6)) 11 = matG (tI t b 10).toNat (tA t (b + 2)) (tA t (b + 3)) (CP t b) :=
  maH_congr (fun p hp => ⟨h.HF p hp, fun _ => rfl⟩) (fun p hp => by rw [h.HF p hp]; exact HF_b _ _ _) (fun s _ => ⟨rfl, rfl⟩) 11 (Nat.le_refl _)
theorem phC {t : TS} {b : Nat} (h : HCt t b) : phH (tA t (b + 6)) 12 = phG (tI t b 10).toNat (CP t b) := phH_congr 12 (fun p hp => h.HF p hp)
theorem cnC {t : TS} {b : Nat} (h : HCt t b) : cnH (tA t (b + 6)) 12 = cnG (tI t b 10).toNat (CP t b) := cnH_congr 12 (fun p hp => h.HF p hp)
/-! how many bits -/
def pcN : Nat → Nat → Nat
  | 0, _ => 0
  | k + 1, a => a % 2 + pcN k (a / 2)
theorem and_nat {a b : Nat} (ha : a < 2147483648) (hb : b < 2147483648) : fZ (fun x y => x &&& y) (a : Int) (b : Int) = ((a &&& b : Nat) : Int) := by
  have hab : a &&& b < 2147483648 := Nat.lt_of_le_of_lt Nat.and_le_left ha
  have e : jI (a : Int) &&& jI (b : Int) = nI (a &&& b) := by
    rw [jI_nat, jI_nat]
    apply Int32.toBitVec_inj.mp
    apply BitVec.eq_of_toNat_eq
    rw [Int32.toBitVec_and, BitVec.toNat_and]
    show (Int32.ofNat a).toBitVec.toNat &&& (Int32.ofNat b).toBitVec.toNat = (Int32.ofNat (a &&& b)).toBitVec.toNat
    rw [Int32.toBitVec_ofNat', Int32.toBitVec_ofNat', Int32.toBitVec_ofNat', BitVec.toNat_ofNat, BitVec.toNat_ofNat, BitVec.toNat_ofNat, Nat.mod_eq_of_lt (by omega), Nat.mod_eq_of_lt (by omega), Nat.mod_eq_of_lt (by omega)]
  show (jI (a : Int) &&& jI (b : Int)).toInt = _
  rw [e, nIt_ hab]
theorem shr_nat {a : Nat} (k : Nat) (ha : a < 2147483648) (c : UInt32) (hc : (jI (k : Int)).toUInt32 &&& Int32.toUInt32 31 = c) (hk : c.toNat % 32 = k) : fZ (fun x y => (x.toUInt32 >>> (y.toUInt32 &&& Int32.toUInt32 31)).toInt32) (a : Int) (k : Int) = ((a >>> k : Nat) : Int) := by
  have h2 : a >>> k < 2147483648 := Nat.lt_of_le_of_lt (Nat.shiftRight_le a k) ha
  have e : (UInt32.ofNat a >>> c).toNat = a >>> k := by
    rw [UInt32.toNat_shiftRight, hk, UInt32.toNat_ofNat', Nat.mod_eq_of_lt (by omega)]
  have h4 : UInt32.ofNat a >>> c = UInt32.ofNat (a >>> k) := by rw [← e]; exact (UInt32.ofNat_toNat).symm
  have h3 : (jI (a : Int)).toUInt32 = UInt32.ofNat a := by rw [jI_nat]; rfl
  show ((jI (a : Int)).toUInt32 >>> ((jI (k : Int)).toUInt32 &&& Int32.toUInt32 31)).toInt32.toInt = _
  rw [hc, h3, h4]
  exact nIt_ h2
def bn1 (a : Nat) : Nat := a - ((a >>> 1) &&& 1431655765)
def bn2 (a : Nat) : Nat := (a &&& 858993459) + ((a >>> 2) &&& 858993459)
def bn3 (a : Nat) : Nat := (a + (a >>> 4)) &&& 252645135
def bn4 (a : Nat) : Nat := a + (a >>> 8)
def bn5 (a : Nat) : Nat := (a + (a >>> 16)) &&& 63
theorem bc1_n {a : Nat} (h : a < 16777216) : bc1 (a : Int) = (bn1 a : Int) ∧ bn1 a ≤ 2 * a := by
  have e1 : fZ (fun x y => (x.toUInt32 >>> (y.toUInt32 &&& Int32.toUInt32 31)).toInt32) (a : Int) 1 = ((a >>> 1 : Nat) : Int) := shr_nat 1 (by omega) 1 (by decide +kernel) (by decide +kernel)
  have l1 := Nat.shiftRight_le a 1
  have e2 : fZ (fun x y => x &&& y) ((a >>> 1 : Nat) : Int) 1431655765 = (((a >>> 1) &&& 1431655765 : Nat) : Int) := and_nat (b := 1431655765) (by omega) (by decide)
  have l2 : (a >>> 1) &&& 1431655765 ≤ a >>> 1 := Nat.and_le_left
  unfold bc1 bn1
  rw [e1, e2, nrm_id (by omega)]
  omega
theorem bc2_n {a : Nat} (h : a < 16777216) : bc2 (a : Int) = (bn2 a : Int) ∧ bn2 a ≤ 2 * a := by
  have e1 : fZ (fun x y => (x.toUInt32 >>> (y.toUInt32 &&& Int32.toUInt32 31)).toInt32) (a : Int) 2 = ((a >>> 2 : Nat) : Int) := shr_nat 2 (by omega) 2 (by decide +kernel) (by decide +kernel)
  have l1 := Nat.shiftRight_le a 2
  have e2 : fZ (fun x y => x &&& y) ((a >>> 2 : Nat) : Int) 858993459 = (((a >>> 2) &&& 858993459 : Nat) : Int) := and_nat (b := 858993459) (by omega) (by decide)
  have e3 : fZ (fun x y => x &&& y) (a : Int) 858993459 = ((a &&& 858993459 : Nat) : Int) := and_nat (b := 858993459) (by omega) (by decide)
  have l2 : (a >>> 2) &&& 858993459 ≤ a >>> 2 := Nat.and_le_left
  have l3 : a &&& 858993459 ≤ a := Nat.and_le_left
  unfold bc2 bn2
  rw [e1, e2, e3, nrm_id (by omega)]
  omega
theorem bc3_n {a : Nat} (h : a < 16777216) : bc3 (a : Int) = (bn3 a : Int) ∧ bn3 a ≤ 2 * a := by
  have e1 : fZ (fun x y => (x.toUInt32 >>> (y.toUInt32 &&& Int32.toUInt32 31)).toInt32) (a : Int) 4 = ((a >>> 4 : Nat) : Int) := shr_nat 4 (by omega) 4 (by decide +kernel) (by decide +kernel)
  have l1 := Nat.shiftRight_le a 4
  have e2 : fZ (fun x y => x &&& y) ((a + (a >>> 4) : Nat) : Int) 252645135 = (((a + (a >>> 4)) &&& 252645135 : Nat) : Int) := and_nat (b := 252645135) (by omega) (by decide)
  have l2 : (a + (a >>> 4)) &&& 252645135 ≤ a + (a >>> 4) := Nat.and_le_left
  unfold bc3 bn3
  rw [e1, nrm_id (by omega), show (a : Int) + ((a >>> 4 : Nat) : Int) = ((a + (a >>> 4) : Nat) : Int) by omega, e2]
  exact ⟨rfl, by omega⟩
theorem bc4_n {a : Nat} (h : a < 16777216) : bc4 (a : Int) = (bn4 a : Int) ∧ bn4 a ≤ 2 * a := by
  have e1 : fZ (fun x y => (x.toUInt32 >>> (y.toUInt32 &&& Int32.toUInt32 31)).toInt32) (a : Int) 8 = ((a >>> 8 : Nat) : Int) := shr_nat 8 (by omega) 8 (by decide +kernel) (by decide +kernel)
  have l1 := Nat.shiftRight_le a 8
  unfold bc4 bn4
  rw [e1, nrm_id (by omega)]
  omega
theorem bc5_n {a : Nat} (h : a < 16777216) : bc5 (a : Int) = (bn5 a : Int) := by
  have e1 : fZ (fun x y => (x.toUInt32 >>> (y.toUInt32 &&& Int32.toUInt32 31)).toInt32) (a : Int) 16 = ((a >>> 16 : Nat) : Int) := shr_nat 16 (by omega) 16 (by decide +kernel) (by decide +kernel)
  have l1 := Nat.shiftRight_le a 16
  have e2 : fZ (fun x y => x &&& y) ((a + (a >>> 16) : Nat) : Int) 63 = (((a + (a >>> 16)) &&& 63 : Nat) : Int) := and_nat (b := 63) (by omega) (by decide)
  unfold bc5 bn5
  rw [e1, nrm_id (by omega), show (a : Int) + ((a >>> 16 : Nat) : Int) = ((a + (a >>> 16) : Nat) : Int) by omega, e2]
set_option maxRecDepth 100000 in
theorem bn_pc : ∀ a : Nat, a < 4096 → bn5 (bn4 (bn3 (bn2 (bn1 a)))) = pcN 12 a := by decide +kernel
theorem bc_pc (a : Nat) (h : a < 4096) : bcF (a : Int) = (pcN 12 a : Int) := by
  have h1 := bc1_n (a := a) (by omega)
  have h2 := bc2_n (a := bn1 a) (by omega)
  have h3 := bc3_n (a := bn2 (bn1 a)) (by omega)
  have h4 := bc4_n (a := bn3 (bn2 (bn1 a))) (by omega)
  have h5 := bc5_n (a := bn4 (bn3 (bn2 (bn1 a)))) (by omega)
  unfold bcF
  rw [h1.1, h2.1, h3.1, h4.1, h5, bn_pc a h]
theorem pc_add : ∀ p k a : Nat, p < k → a < 2 ^ p → pcN k (a + 2 ^ p) = pcN k a + 1
  | 0, 0, _, h, _ => by omega
  | 0, k + 1, a, _, ha => by
    have e : a = 0 := by simp at ha; exact ha
    subst e
    show (0 + 2 ^ 0) % 2 + pcN k ((0 + 2 ^ 0) / 2) = 0 % 2 + pcN k (0 / 2) + 1
    rw [show (0 + 2 ^ 0) / 2 = 0 / 2 by decide, show (0 + 2 ^ 0) % 2 = 1 by decide]
    omega
  | p + 1, 0, _, h, _ => by omega
  | p + 1, k + 1, a, h, ha => by
    rw [Nat.pow_succ] at ha ⊢
    have ih := pc_add p k (a / 2) (by omega) (by omega)
    show (a + 2 ^ p * 2) % 2 + pcN k ((a + 2 ^ p * 2) / 2) = a % 2 + pcN k (a / 2) + 1
    rw [show (a + 2 ^ p * 2) % 2 = a % 2 by omega, show (a + 2 ^ p * 2) / 2 = a / 2 + 2 ^ p by omega, ih]
    omega
theorem pc_or (p : Nat) (hp : p < 12) (a : Nat) (ha : a < 2 ^ p) : pcN 12 (a ||| 2 ^ p) = pcN 12 a + 1 := by
  have e : a ||| 2 ^ p = a + 2 ^ p := by
    have q := Nat.two_pow_add_eq_or_of_lt ha 1
    rw [Nat.mul_one] at q
    rw [Nat.or_comm, ← q, Nat.add_comm]
  rw [e]
  exact pc_add p 12 a hp ha
theorem ph_cn {H : Nat → Int} : ∀ p : Nat, p ≤ 12 → ∃ a : Nat, phH H p = (a : Int) ∧ a < 2 ^ p ∧ cnH H p = (pcN 12 a : Int)
  | 0, _ => ⟨0, rfl, by decide, rfl⟩
  | p + 1, hp => by
    obtain ⟨a, h1, h2, h3⟩ := ph_cn (H := H) p (by omega)
    have hp2 : 2 ^ p < 2 ^ (p + 1) := Nat.pow_lt_pow_right (by decide) (by omega)
    unfold phH cnH
    by_cases e : H p = -1
    · rw [if_pos e, if_pos e]
      exact ⟨a, h1, by omega, by rw [h3, Int.add_zero]⟩
    · rw [if_neg e, if_neg e, h1, shl_pow p (by omega)]
      have hM : 2 ^ p ≤ 2 ^ 12 := Nat.pow_le_pow_right (by decide) (by omega)
      refine ⟨a ||| 2 ^ p, or_nat (by omega) (by omega), Nat.or_lt_two_pow (by omega) hp2, ?_⟩
      rw [pc_or p (by omega) a h2, h3]
      omega
theorem bc_cn (H : Nat → Int) : bcF (phH H 12) = cnH H 12 := by
  obtain ⟨a, h1, h2, h3⟩ := ph_cn (H := H) 12 (Nat.le_refl _)
  rw [h1, bc_pc a h2, h3]
theorem cn_r (H : Nat → Int) : ∀ p : Nat, 0 ≤ cnH H p ∧ cnH H p ≤ p
  | 0 => ⟨Int.le_refl 0, Int.le_refl 0⟩
  | p + 1 => by
    have := cn_r H p
    unfold cnH
    split <;> omega
