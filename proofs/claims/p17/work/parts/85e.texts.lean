/-! ===== working a text out, step by step ===== -/
theorem tw_p {s x y z : Int} (hs : s = 43) (h : z = nrm (x + y)) : z = twF (sgF s) x y := by subst hs h; rfl
theorem tw_m {s x y z : Int} (hs : s = 45) (h : z = nrm (x - y)) : z = twF (sgF s) x y := by subst hs h; rfl
theorem tw_t {s x y z : Int} (hs : s = 42) (h : z = nrm (x * y)) : z = twF (sgF s) x y := by subst hs h; rfl
theorem tw_d0 {s x y z : Int} (hs : s = 47) (hy : y = 0) (h : z = 0) : z = twF (sgF s) x y := by
  subst hs hy h
  rfl
theorem tw_d {s x y z : Int} (hs : s = 47) (hy : ¬ y = 0) (h : z = fZ (fun x y => x / y) x y) : z = twF (sgF s) x y := by
  subst hs h
  show _ = (if y = 0 then 0 else fZ (fun x y => x / y) x y)
  rw [if_neg hy]
theorem tw_l {s x y z : Int} (hs : s = 60) (h : (x < y ∧ z = 1) ∨ (¬ x < y ∧ z = 0)) : z = twF (sgF s) x y := by
  subst hs
  show _ = (if x < y then 1 else 0)
  split <;> omega
theorem tw_e {s x y z : Int} (hs : s = 61) (h : (x = y ∧ z = 1) ∨ (¬ x = y ∧ z = 0)) : z = twF (sgF s) x y := by
  subst hs
  show _ = (if x = y then 1 else 0)
  split <;> omega
theorem tw_g {s x y z : Int} (hs : s = 62) (h : (y < x ∧ z = 1) ∨ (¬ y < x ∧ z = 0)) : z = twF (sgF s) x y := by
  subst hs
  show _ = (if y < x then 1 else 0)
  split <;> omega
theorem tw_a {s x y z : Int} (hs : s = 38) (h : (¬ x = 0 ∧ ¬ y = 0 ∧ z = 1) ∨ ((x = 0 ∨ y = 0) ∧ z = 0)) : z = twF (sgF s) x y := by
  subst hs
  show _ = (if ¬ x = 0 ∧ ¬ y = 0 then 1 else 0)
  split <;> omega
theorem tw_o {s x y z : Int} (hs : s = 124) (h : ((¬ x = 0 ∨ ¬ y = 0) ∧ z = 1) ∨ (x = 0 ∧ y = 0 ∧ z = 0)) : z = twF (sgF s) x y := by
  subst hs
  show _ = (if ¬ x = 0 ∨ ¬ y = 0 then 1 else 0)
  split <;> omega
theorem tx_uX {u : TS} {j k : Nat} {z : Int} (hj : j < (tD u).length) : (tx (uX u j k z) j).2.2.2.2 = (tx u j).2.2.2.2.set k (jI z) := by
  unfold tx uX
  show (((tD u).set j _).getD j _).2.2.2.2 = _
  rw [List.getD_eq_getElem?_getD, List.getElem?_set, if_pos rfl, if_pos hj]
  rfl
theorem xk_uX {u : TS} {j k m : Nat} {z : Int} (hj : j < (tD u).length) (hk : k < (tx u j).2.2.2.2.length) (hz : -2147483648 ≤ z ∧ z ≤ 2147483647) : xkF (tx (uX u j k z) j) m = upF (xkF (tx u j)) k z m := by
  unfold xkF upF
  rw [tx_uX hj, List.getD_eq_getElem?_getD, List.getElem?_set]
  by_cases e : m = k
  · subst e
    rw [if_pos rfl, if_pos hk, if_pos rfl]
    exact nrm_id hz
  · rw [if_neg (fun q => e q.symm), if_neg e]
    show _ = ((tx u j).2.2.2.2.getD m 0).toInt
    rw [List.getD_eq_getElem?_getD]
def GIp (t u : TS) (j : Nat) (p q r top i : Int) : Prop := top = (evF (xcF (tx t j)) p q r (xkF (tx t j)) i.toNat).1 ∧ ∀ m : Nat, m < (tx t j).2.2.2.2.length → xkF (tx u j) m = (evF (xcF (tx t j)) p q r (xkF (tx t j)) i.toNat).2 m
theorem gi_0 (t : TS) (j : Nat) (p q r : Int) : GIp t t j p q r 0 0 := ⟨rfl, fun _ _ => rfl⟩
theorem gi_b {t u : TS} {j : Nat} {p q r top i s : Int} (g : GVx (tx t j)) (h : GIp t u j p q r top i) (hi : 0 ≤ i ∧ i < ((tx t j).2.2.1.length : Int)) (hs : s = xsF (tx t j) i.toNat) : (s = 0 ∧ 0 ≤ top ∧ top < ((tx t j).2.2.2.2.length : Int)) ∨ (s = 1 ∧ 0 ≤ top ∧ top < ((tx t j).2.2.2.2.length : Int)) ∨ (s = 33 ∧ 1 ≤ top ∧ top ≤ ((tx t j).2.2.2.2.length : Int)) ∨ (¬ s = 0 ∧ ¬ s = 1 ∧ ¬ s = 33 ∧ ¬ sgF s = 0 ∧ 2 ≤ top ∧ top ≤ ((tx t j).2.2.2.2.length : Int)) := by
  obtain ⟨g1, g2, g3, g4, g5⟩ := g
  have hn : i.toNat < (tx t j).2.2.1.length := by omega
  have c := vs_c (g3 _ hn)
  have w := g4 i.toNat hn
  have d := dep_cp (xcF (tx t j)) i.toNat
  have dn := (depF_nn g4 i.toNat (by omega)).1
  have m1 := cpF_le (xcF (tx t j)) i.toNat ((tx t j).2.2.1.length - i.toNat)
  have m2 := cpF_le (xcF (tx t j)) (i.toNat + 1) ((tx t j).2.2.1.length - (i.toNat + 1))
  rw [show i.toNat + ((tx t j).2.2.1.length - i.toNat) = (tx t j).2.2.1.length by omega] at m1
  rw [show i.toNat + 1 + ((tx t j).2.2.1.length - (i.toNat + 1)) = (tx t j).2.2.1.length by omega] at m2
  have e1 : cpF (xcF (tx t j)) (i.toNat + 1) = cpF (xcF (tx t j)) i.toNat + (if 0 ≤ xcF (tx t j) i.toNat then 1 else 0) := rfl
  have et : top = depF (xcF (tx t j)) i.toNat := by rw [h.1, evF_top]
  have ex : xcF (tx t j) i.toNat = trF (xsF (tx t j) i.toNat, xvF (tx t j) i.toNat) := rfl
  rw [← hs] at c
  rw [← hs] at ex
  rcases c with c | c | c | c
  · rw [if_pos (by omega)] at e1
    exact Or.inl ⟨c.1, by omega, by omega⟩
  · rw [if_pos (by omega)] at e1
    exact Or.inr (Or.inl ⟨c.1, by omega, by omega⟩)
  · have := w.1 (by omega)
    exact Or.inr (Or.inr (Or.inl ⟨c.1, by omega, by omega⟩))
  · have := w.2 (by omega) (by omega)
    exact Or.inr (Or.inr (Or.inr ⟨c.1, c.2.1, c.2.2.1, c.2.2.2.1, by omega, by omega⟩))
theorem gi_step {t u : TS} {j : Nat} {p q r i : Int} (hi : 0 ≤ i) : evF (xcF (tx t j)) p q r (xkF (tx t j)) (i + 1).toNat = ev1 (xcF (tx t j) i.toNat) p q r (evF (xcF (tx t j)) p q r (xkF (tx t j)) i.toNat) := by
  rw [show (i + 1).toNat = i.toNat + 1 by omega]
  rfl
theorem gi_push {t u v : TS} {j : Nat} {p q r top i x : Int} (g : GVx (tx t j)) (h : GIp t u j p q r top i) (hi : 0 ≤ i ∧ i < ((tx t j).2.2.1.length : Int)) (ht : 0 ≤ top ∧ top < ((tx t j).2.2.2.2.length : Int)) (hv : (xsF (tx t j) i.toNat = 0 ∧ x = xvF (tx t j) i.toNat) ∨ (xsF (tx t j) i.toNat = 1 ∧ x = faF p q r (xvF (tx t j) i.toNat))) (hx : -2147483648 ≤ x ∧ x ≤ 2147483647) (hj : j < (tD u).length) (hl : (tx u j).2.2.2.2.length = (tx t j).2.2.2.2.length) (hu : v = uX u j top.toNat x) : GIp t v j p q r (top + 1) (i + 1) := by
  have c := vs_c (g.2.2.1 i.toNat (by omega))
  have ec : 0 ≤ xcF (tx t j) i.toNat ∧ opF p q r (xcF (tx t j) i.toNat) = x := by
    unfold xcF opF
    rcases hv with k | k
    · rcases c with c | c | c | c
      · rw [c.2.2.2, if_pos c.2.2.1]; exact ⟨c.2.1, k.2.symm⟩
      · omega
      · omega
      · omega
    · rcases c with c | c | c | c
      · omega
      · rw [c.2.2.2, if_neg (by omega), show 10000 + xvF (tx t j) i.toNat - 10000 = xvF (tx t j) i.toNat by omega]
        exact ⟨by omega, k.2.symm⟩
      · omega
      · omega
  obtain ⟨h1, h2⟩ := h
  unfold GIp
  rw [gi_step (u := u) hi.1]
  unfold ev1
  rw [if_pos ec.1, ec.2, ← h1]
  refine ⟨rfl, fun m hm => ?_⟩
  rw [hu, xk_uX hj (by omega) hx]
  show upF _ _ _ m = upF _ _ _ m
  unfold upF
  rw [h2 m hm]
theorem gi_not {t u v : TS} {j : Nat} {p q r top i x a : Int} (g : GVx (tx t j)) (h : GIp t u j p q r top i) (hi : 0 ≤ i ∧ i < ((tx t j).2.2.1.length : Int)) (ht : 1 ≤ top ∧ top ≤ ((tx t j).2.2.2.2.length : Int)) (hs : xsF (tx t j) i.toNat = 33) (ha : a = xkF (tx u j) (top - 1).toNat) (hv : (a = 0 ∧ x = 1) ∨ (¬ a = 0 ∧ x = 0)) (hj : j < (tD u).length) (hl : (tx u j).2.2.2.2.length = (tx t j).2.2.2.2.length) (hu : v = uX u j (top - 1).toNat x) : GIp t v j p q r top (i + 1) := by
  have c := vs_c (g.2.2.1 i.toNat (by omega))
  have ec : xcF (tx t j) i.toNat = -10 := by
    unfold xcF
    rcases c with c | c | c | c
    · omega
    · omega
    · exact c.2
    · omega
  obtain ⟨h1, h2⟩ := h
  unfold GIp
  rw [gi_step (u := u) hi.1]
  unfold ev1
  rw [ec, if_neg (by decide), if_pos rfl, ← h1, ← h2 (top - 1).toNat (by omega), ← ha]
  refine ⟨rfl, fun m hm => ?_⟩
  rw [hu, xk_uX hj (by omega) (by omega)]
  show upF _ _ _ m = upF _ _ _ m
  unfold upF
  rw [h2 m hm]
  by_cases e : m = (top - 1).toNat
  · rw [if_pos e, if_pos e]
    rcases hv with k | k
    · rw [if_pos k.1, k.2]
    · rw [if_neg k.1, k.2]
  · rw [if_neg e, if_neg e]
theorem gi_two {t u v : TS} {j : Nat} {p q r top i x a b top2 : Int} (g : GVx (tx t j)) (h : GIp t u j p q r top i) (hi : 0 ≤ i ∧ i < ((tx t j).2.2.1.length : Int)) (ht : 2 ≤ top ∧ top ≤ ((tx t j).2.2.2.2.length : Int)) (h0 : ¬ xsF (tx t j) i.toNat = 0) (h1 : ¬ xsF (tx t j) i.toNat = 1) (h33 : ¬ xsF (tx t j) i.toNat = 33) (ha : a = xkF (tx u j) (top - 2).toNat) (hb : b = xkF (tx u j) (top - 1).toNat) (hv : x = twF (sgF (xsF (tx t j) i.toNat)) a b) (hx : -2147483648 ≤ x ∧ x ≤ 2147483647) (hj : j < (tD u).length) (hl : (tx u j).2.2.2.2.length = (tx t j).2.2.2.2.length) (hu : v = uX u j (top - 2).toNat x) (e2 : top2 = top - 1) : GIp t v j p q r top2 (i + 1) := by
  have c := vs_c (g.2.2.1 i.toNat (by omega))
  have ec : xcF (tx t j) i.toNat = sgF (xsF (tx t j) i.toNat) ∧ -9 ≤ sgF (xsF (tx t j) i.toNat) ∧ sgF (xsF (tx t j) i.toNat) < 0 := by
    unfold xcF
    rcases c with c | c | c | c
    · omega
    · omega
    · omega
    · exact c.2.2.2.2
  obtain ⟨k1, k2⟩ := h
  unfold GIp
  rw [gi_step (u := u) hi.1]
  unfold ev1
  rw [ec.1, if_neg (by omega), if_neg (by omega), ← k1, ← k2 (top - 2).toNat (by omega), ← k2 (top - 1).toNat (by omega), ← ha, ← hb, ← hv]
  refine ⟨e2, fun m hm => ?_⟩
  rw [hu, xk_uX hj (by omega) hx]
  show upF _ _ _ m = upF _ _ _ m
  unfold upF
  rw [k2 m hm]
theorem gi_e {t u : TS} {j : Nat} {p q r top i : Int} (g : GVx (tx t j)) (h : GIp t u j p q r top i) (hi : i = ((tx t j).2.2.1.length : Int)) : 1 ≤ top ∧ (1 ≤ (tx t j).2.2.2.2.length) ∧ xkF (tx u j) 0 = evX (tx t j) p q r := by
  obtain ⟨g1, g2, g3, g4, g5⟩ := g
  obtain ⟨h1, h2⟩ := h
  rw [show i.toNat = (tx t j).2.2.1.length by omega] at h1 h2
  rw [evF_top] at h1
  have d := (depF_nn g4 _ (Nat.le_refl _)).2 g2
  have e := dep_cp (xcF (tx t j)) (tx t j).2.2.1.length
  refine ⟨by omega, by omega, ?_⟩
  rw [h2 0 (by omega)]
  exact evF_res g4 g2
/-! darks -/
theorem dk_N0 {t : TS} {b : Nat} {s r k l z : Int} (h : none = lwF t b 0) (hr : 0 ≤ r) (hk : k = tA t (b + 1) s.toNat) (hl : l = tA t (b + 2) s.toNat) (hz : z = dkF k (max 0 (min 99 (15 * l)))) : z = dkC t b s.toNat r.toNat 0 := by
  unfold dkC pdF
  rw [← h, if_pos rfl, ← hk, ← hl, hz]
  rfl
theorem dk_N1 {t : TS} {b : Nat} {s r k l z : Int} (h : none = lwF t b 0) (hr : 0 ≤ r) (hk : k = tA t (b + 1) s.toNat) (hl : l = tA t (b + 3) s.toNat) (hz : z = dkF k (max 0 (min 99 (15 * l)))) : z = dkC t b s.toNat r.toNat 1 := by
  unfold dkC pdF
  rw [← h, if_neg (by decide), ← hk, ← hl, hz]
  rfl
theorem dk_X0 {t u : TS} {b j : Nat} {s r k l z hv : Int} (h : some (92 + 4 * j) = lwF t b 0) (hd : Dhd (tx u j) = Dhd (tx t j)) (hr : 0 ≤ r) (hk : k = tA t (b + 1) s.toNat) (hl : l = tA t (b + 2) s.toNat) (hh : hv = hvF (tA t (b + 1) s.toNat) (tA t (b + 2) s.toNat) (tA t (b + 3) s.toNat)) (hz : z = dkF k (max 0 (min 99 (evX (tx u j) l r hv)))) : z = dkC t b s.toNat r.toNat 0 := by
  unfold dkC pdF
  rw [← h, if_pos rfl, ← hh, ← hk, ← hl, hz, exF_j, evX_hd hd, Int.toNat_of_nonneg hr]
theorem dk_X1 {t u : TS} {b j : Nat} {s r k l z hv : Int} (h : some (92 + 4 * j) = lwF t b 0) (hd : Dhd (tx u j) = Dhd (tx t j)) (hr : 0 ≤ r) (hk : k = tA t (b + 1) s.toNat) (hl : l = tA t (b + 3) s.toNat) (hh : hv = hvF (tA t (b + 1) s.toNat) (tA t (b + 2) s.toNat) (tA t (b + 3) s.toNat)) (hz : z = dkF k (max 0 (min 99 (evX (tx u j) l r hv)))) : z = dkC t b s.toNat r.toNat 1 := by
  unfold dkC pdF
  rw [← h, if_neg (by decide), ← hh, ← hk, ← hl, hz, exF_j, evX_hd hd, Int.toNat_of_nonneg hr]
def DNp (t u : TS) (b s : Nat) (r : Nat) : Prop := (∀ r' v : Nat, r' < r → v < 2 → tA u (b + 8) ((s * 4 + r') * 2 + v) = dkC t b s r' v) ∧ ∀ i : Nat, (i < 8 * s ∨ 8 * s + 8 ≤ i) → tA u (b + 8) i = tA t (b + 8) i
theorem dn_0 (t : TS) (b s : Nat) : DNp t t b s 0 := ⟨fun r' v h => by omega, fun _ _ => rfl⟩
theorem dn_s {t u a c d e : TS} {b : Nat} {s r x y v w : Int} (h : DNp t u b s.toNat r.toNat) (h0 : 0 ≤ s ∧ 0 ≤ r ∧ r < 4) (ea : tA a = tA u) (ec : c = uA a (b + 8) x.toNat v) (ed : tA d = tA c) (ee : e = uA d (b + 8) y.toNat w) (hx : x = (s * 4 + r) * 2 + 0) (hy : y = (s * 4 + r) * 2 + 1) (hv : v = dkC t b s.toNat r.toNat 0) (hw : w = dkC t b s.toNat r.toNat 1) : DNp t e b s.toNat (r + 1).toNat := by
  have k : ∀ i, tA e (b + 8) i = if i = y.toNat then w else if i = x.toNat then v else tA u (b + 8) i := by
    intro i
    rw [ee, tA_uA, ed, ec, tA_uA, ea]
    by_cases q : i = y.toNat
    · rw [if_pos ⟨rfl, q⟩, if_pos q]
    · rw [if_neg (fun z => q z.2), if_neg q]
      by_cases q2 : i = x.toNat
      · rw [if_pos ⟨rfl, q2⟩, if_pos q2]
      · rw [if_neg (fun z => q2 z.2), if_neg q2]
  refine ⟨fun r' z hr hz => ?_, fun i hi => ?_⟩
  · rw [k]
    by_cases q : r' = r.toNat
    · subst q
      have z01 : z = 0 ∨ z = 1 := by omega
      rcases z01 with rfl | rfl
      · rw [if_neg (by omega), if_pos (by omega)]; exact hv
      · rw [if_pos (by omega)]; exact hw
    · rw [if_neg (by omega), if_neg (by omega)]
      exact h.1 r' z (by omega) hz
  · rw [k, if_neg (by omega), if_neg (by omega)]
    exact h.2 i hi
/-! one more stone -/
def ASp (t u : TS) (b : Nat) : Prop := (∀ i : Nat, tA u (b + 4) i = if i = (tI t b 10).toNat then 12 else tA t (b + 4) i) ∧ (∀ i : Nat, tA u (b + 5) i = if i = (tI t b 10).toNat then 0 else tA t (b + 5) i) ∧ (∀ r v : Nat, r < 4 → v < 2 → tA u (b + 8) (((tI t b 10).toNat * 4 + r) * 2 + v) = dkC u b (tI t b 10).toNat r v) ∧ ∀ i : Nat, (i < 8 * (tI t b 10).toNat ∨ 8 * (tI t b 10).toNat + 8 ≤ i) → tA u (b + 8) i = tA t (b + 8) i
theorem dkC_fr {S : List (Nat × Nat)} {t u : TS} (f : Fr S t u) {b : Nat} (h1 : (b + 1, 100) ∉ S) (h2 : (b + 2, 100) ∉ S) (h3 : (b + 3, 100) ∉ S) (h10 : (b + 10, 100) ∉ S) (h11 : (b, 11) ∉ S) (h9 : (b + 9, 101) ∉ S) (s r v : Nat) : dkC u b s r v = dkC t b s r v := dkC_mv (f.2.1 _ h10) (f.1 _ _ h11) (f.2.2.1 _ h9) f.2.2.2.2 (f.2.1 _ h1 s) (f.2.1 _ h2 s) (f.2.1 _ h3 s) r v
theorem as_hc {t u : TS} {b : Nat} (h : HCt t b) (a : ASp t u b) (h6 : ∀ i, tA u (b + 6) i = tA t (b + 6) i) (hn : tI u b 10 = tI t b 10 + 1) (h0 : 0 ≤ tI t b 10) : HCt u b := by
  unfold HCt
  rw [show (tI u b 10).toNat = (tI t b 10).toNat + 1 by omega]
  refine (HC.add h (fun s hs => ?_) ?_).H (fun i _ => h6 i)
  · rw [a.1, if_neg (by omega)]
  · rw [a.1, if_pos rfl]
theorem as_dk {t u : TS} {b : Nat} (h : DK t b (tI t b 10)) (a : ASp t u b) (hn : tI u b 10 = tI t b 10 + 1) (h0 : 0 ≤ tI t b 10) (h10 : ∀ i, tA u (b + 10) i = tA t (b + 10) i) (h11 : tI u b 11 = tI t b 11) (h9 : ∀ i, tT u (b + 9) i = tT t (b + 9) i) (hd : (tD u).map Dhd = (tD t).map Dhd) (k1 : ∀ i, ¬ i = (tI t b 10).toNat → tA u (b + 1) i = tA t (b + 1) i) (k2 : ∀ i, ¬ i = (tI t b 10).toNat → tA u (b + 2) i = tA t (b + 2) i) (k3 : ∀ i, ¬ i = (tI t b 10).toNat → tA u (b + 3) i = tA t (b + 3) i) : DK u b (tI u b 10) := by
  intro s r v hs hr hv
  by_cases e : s = (tI t b 10).toNat
  · rw [e]
    exact a.2.2.1 r v hr hv
  · rw [a.2.2.2 _ (by omega), dkC_mv h10 h11 h9 hd (k1 s e) (k2 s e) (k3 s e)]
    exact h s r v (by omega) hr hv
/-! one more text -/
def ATp (t u : TS) (b j : Nat) : Prop := tI u b 11 = tI t b 11 + 1 ∧ (∀ i : Nat, tT u (b + 9) i = if i = (tI t b 11).toNat then some (92 + 4 * j) else tT t (b + 9) i) ∧ (∀ i : Nat, tA u (b + 10) i = if i = (tx t j).1.toNat then tI t b 11 else tA t (b + 10) i) ∧ ((¬ (tx t j).1 = 0 ∧ ∀ i, tA u (b + 8) i = tA t (b + 8) i) ∨ ((tx t j).1 = 0 ∧ DK u b (tI t b 10)))
