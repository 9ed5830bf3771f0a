/-! ===== the class's readText and text, exact (DRAFT: not yet compiled) ===== -/
def b0T (t : TS) : PCu := stC (tA t 38) (tI t 37 1) (0, 3, 0, 0)
def b1T (t : TS) : PCu := stC (tA t 38) (tI t 37 1) (b0T t)
def yT (t : TS) (q : Int) : PPs := RD (tA t 38) (tI t 37 1) q 80 0 0 0 (b1T t, [], 0, -1)
def RTp (t : TS) (z : Option Nat) (u : TS) : Prop := ∃ q, KYp (tA t 38) (b0T t) q ∧ ((q = -1 ∧ z = none ∧ tI u 39 0 = (b0T t).1 ∧ (tD u).map Dhd = (tD t).map Dhd) ∨ (0 ≤ q ∧ ((z = none ∧ ((¬ (yT t q).2.2.2 = -1 ∧ tI u 39 0 = (yT t q).2.2.2) ∨ ((yT t q).2.2.2 = -1 ∧ ¬ (yT t q).1.2.1 = 0 ∧ tI u 39 0 = (yT t q).1.1)) ∧ (tD u).map Dhd = (tD t).map Dhd) ∨ (z = some (92 + 4 * (tD t).length) ∧ (yT t q).2.2.2 = -1 ∧ (yT t q).1.2.1 = 0 ∧ ∃ (n : Nat) (f g : Nat → Int) (st : List Int32), n ≤ 95 ∧ (yT t q).2.1 = lsP f g n ∧ (tD u).map Dhd = (tD t).map Dhd ++ [Dhd (q, (yT t q).2.2.1, (row 96 f).take n, (row 96 g).take n, st)] ∧ (st.length : Int) = (yT t q).2.2.1 ∧ (∀ i, -2147483648 ≤ f i ∧ f i ≤ 2147483647) ∧ ∀ i, -2147483648 ≤ g i ∧ g i ≤ 2147483647))))
theorem rd_blk6x {d : Nat} {t : TS} {key : Int} {N : Nat} {B : List ab_K} {Q : Option Nat → TS → Prop} (ok : OK t) (hk : 0 ≤ key ∧ key ≤ 2) (hl : tI t 39 4 ≤ 95) (hD : (tD t).length ≤ 100000) (hQ : ∀ x, TXok x → x = (key, tI t 39 5, (row 96 (tA t 40)).take (tI t 39 4).toNat, (row 96 (tA t 41)).take (tI t 39 4).toNat, List.replicate (tI t 39 5).toNat 0) → Q (some (92 + 4 * (tD t).length)) (uD t (tD t ++ [x]))) : Rp B N (bX1_readText_6 (EX FU (d + 1))) [some (.ref 39), some (.int (jI key))] [] (mk t) (PR Q) := by
  have r4 := ok.f fe_39_4
  have r5 := ok.f fe_39_5
  have hn := mk_len t
  have a40 := (ai_40 t).1
  have a41 := (ai_41 t).1
  obtain ⟨x, hx⟩ : ∃ x : TX, x = (key, tI t 39 5, (row 96 (tA t 40)).take (tI t 39 4).toNat, (row 96 (tA t 41)).take (tI t 39 4).toNat, List.replicate (tI t 39 5).toNat 0) := ⟨_, rfl⟩
  have hok : TXok x := by
    subst hx
    refine ⟨hk, r5, ?_, ?_, ?_⟩
    · show ((row 96 (tA t 40)).take _).length ≤ 95
      rw [List.length_take, row_len]; omega
    · show ((row 96 (tA t 41)).take _).length ≤ 95
      rw [List.length_take, row_len]; omega
    · show (List.replicate (tI t 39 5).toNat (0 : Int32)).length ≤ 96
      rw [List.length_replicate]; omega
  refine Rp_end (v := some (.ref (mk t).length)) (w' := mk (uD t (tD t ++ [x]))) ?_ ⟨some (mk t).length, _, rfl, rfl, by rw [hn]; exact hQ x hok hx⟩
  show Rb B N (bX1_readText_6 (EX FU (d + 1))) _ _ _ _
  unfold bX1_readText_6
  refine rb_new (by omega) ?_
  refine rb_dupR ?_
  refine rb_iload rfl ?_
  refine rb_aload rfl ?_
  refine rb_getf (gf_app (g_39_5 t)) ?_
  refine rb_aload rfl ?_
  refine rb_getf (gf_app (g_39_2 t)) ?_
  refine rb_aload rfl ?_
  refine rb_getf (gf_app (g_39_4 t)) ?_
  refine rb_callS2 rfl (c_copyOf (d := d) (ia_app a40) (by rw [row_len]; omega) (by rw [row_len]; omega) (by simp; omega)) ?_
  refine rb_aload rfl ?_
  refine rb_getf (gf_app (gf_app (g_39_3 t))) ?_
  refine rb_aload rfl ?_
  refine rb_getf (gf_app (gf_app (g_39_4 t))) ?_
  refine rb_callS2 rfl (c_copyOf (d := d) (ia_app (ia_app a41)) (by rw [row_len]; omega) (by rw [row_len]; omega) (by simp; omega)) ?_
  rw [List.append_assoc, List.append_assoc]
  refine rb_callI4v rfl (c_Tinit (d := d) (W := mk t) (k := key) (ops := tI t 39 5) r5 (by omega)) ?_
  refine rb_ret rfl ?_
  rw [mk_app, hx]
  simp [quad]
theorem rt_1 {t b c : TS} (r1 : Rd c = stP (tA b 38) (tI b 37 1) (Rd b)) (g1 : tA b 38 = tA t 38) (g2 : tI b 37 1 = tI t 37 1) (hc : cuR b = b0T t) (h4 : tI b 39 4 = 0) (h5 : tI b 39 5 = 0) (h0 : tI b 39 0 = -1) : Rd c = (b1T t, [], 0, -1) := by
  rw [r1, g1, g2]
  unfold Rd stP ouR
  rw [hc, h4, h5, h0]
  rfl
theorem rt_2 {t c d : TS} {q : Int} (h : RLp 0 0 0 c d) (r : Rd c = (b1T t, [], 0, -1)) (g1 : tA c 38 = tA t 38) (g2 : tI c 37 1 = tI t 37 1) (hq : kyN c = q) : Rd d = yT t q := by
  rw [h 80 (by decide), r]
  unfold RDt yT
  rw [g1, g2, hq]
theorem rt_n {t u : TS} {q : Int} (ky : KYp (tA t 38) (b0T t) q) (hq : q = -1) (h0 : tI u 39 0 = (b0T t).1) (hD : (tD u).map Dhd = (tD t).map Dhd) : RTp t none u := ⟨q, ky, Or.inl ⟨hq, rfl, h0, hD⟩⟩
theorem rt_f {t d u : TS} {q : Int} (ky : KYp (tA t 38) (b0T t) q) (hq : 0 ≤ q) (y : Rd d = yT t q) (h : (¬ tI d 39 0 = -1 ∧ tI u 39 0 = tI d 39 0) ∨ (tI d 39 0 = -1 ∧ ¬ tI d 39 7 = 0 ∧ tI u 39 0 = tI d 39 8)) (hD : (tD u).map Dhd = (tD t).map Dhd) : RTp t none u := by
  refine ⟨q, ky, Or.inr ⟨hq, Or.inl ⟨rfl, ?_, hD⟩⟩⟩
  rw [← y]
  exact h
theorem rt_s {t d : TS} {q : Int} {x : TX} (okd : OK d) (ky : KYp (tA t 38) (b0T t) q) (hq : 0 ≤ q) (y : Rd d = yT t q) (h0 : tI d 39 0 = -1) (h7 : tI d 39 7 = 0) (h4 : tI d 39 4 ≤ 95) (hD : (tD d).map Dhd = (tD t).map Dhd) (hl : (tD d).length = (tD t).length) (hx : x = (q, tI d 39 5, (row 96 (tA d 40)).take (tI d 39 4).toNat, (row 96 (tA d 41)).take (tI d 39 4).toNat, List.replicate (tI d 39 5).toNat 0)) : RTp t (some (92 + 4 * (tD d).length)) (uD d (tD d ++ [x])) := by
  have r5 := okd.f fe_39_5
  refine ⟨q, ky, Or.inr ⟨hq, Or.inr ⟨by rw [hl], ?_, ?_, (tI d 39 4).toNat, tA d 40, tA d 41, List.replicate (tI d 39 5).toNat 0, by omega, ?_, ?_, ?_, fun i => ?_, fun i => ?_⟩⟩⟩
  · rw [← y]; exact h0
  · rw [← y]; exact h7
  · rw [← y]; rfl
  · show (tD d ++ [x]).map Dhd = _
    rw [List.map_append, hD, hx, ← y]
    rfl
  · rw [← y, List.length_replicate]
    show ((tI d 39 5).toNat : Int) = tI d 39 5
    omega
  · have := okd.a (ae_40 i)
    omega
  · exact okd.a (ae_41 i)
/-! ===== one text more, of the game ===== -/
def XFp (t : TS) (f : Int) : Prop := ∃ q, KYp (tA t 38) (b0T t) q ∧ ((q = -1 ∧ f = (b0T t).1) ∨ (0 ≤ q ∧ ((¬ (yT t q).2.2.2 = -1 ∧ f = (yT t q).2.2.2) ∨ ((yT t q).2.2.2 = -1 ∧ ¬ (yT t q).1.2.1 = 0 ∧ f = (yT t q).1.1))))
def XSp (t : TS) (x : TX) : Prop := ∃ (n : Nat) (f g : Nat → Int), KYp (tA t 38) (b0T t) x.1 ∧ 0 ≤ x.1 ∧ (yT t x.1).2.2.2 = -1 ∧ (yT t x.1).1.2.1 = 0 ∧ (yT t x.1).2.1 = lsP f g n ∧ x.2.1 = (yT t x.1).2.2.1 ∧ x.2.2.1.length = n ∧ (∀ i, i < n → xcF x i = trF (f i, g i)) ∧ GVx x
def sm1 (t u : TS) : Prop := tI u 1 11 = tI t 1 11 ∧ (∀ i, tT u 10 i = tT t 10 i) ∧ (∀ i, tA u 11 i = tA t 11 i) ∧ ∀ i, tA u 9 i = tA t 9 i
def ATq (t u : TS) (x : TX) : Prop := tI u 1 11 = tI t 1 11 + 1 ∧ (∀ i : Nat, tT u 10 i = if i = (tI t 1 11).toNat then some (92 + 4 * (tD t).length) else tT t 10 i) ∧ (∀ i : Nat, tA u 11 i = if i = x.1.toNat then tI t 1 11 else tA t 11 i) ∧ ((¬ x.1 = 0 ∧ ∀ i, tA u 9 i = tA t 9 i) ∨ (x.1 = 0 ∧ DK u 1 (tI t 1 10)))
def XCp (t : TS) (z : Int) (u : TS) : Prop := (∃ f, XFp t f ∧ z = -100 - f ∧ sm1 t u ∧ (tD u).map Dhd = (tD t).map Dhd) ∨ ∃ x, XSp t x ∧ (tD u).map Dhd = (tD t).map Dhd ++ [Dhd x] ∧ ((14 ≤ tI t 1 11 ∧ z = -1000000003 ∧ sm1 t u) ∨ (tI t 1 11 < 14 ∧ z = tI t 1 11 ∧ ATq t u x))
theorem rt_xf {t u : TS} (h : RTp t none u) : XFp t (tI u 39 0) ∧ (tD u).map Dhd = (tD t).map Dhd := by
  obtain ⟨q, ky, h⟩ := h
  rcases h with h | ⟨h0, h | h⟩
  · exact ⟨⟨q, ky, Or.inl ⟨h.1, h.2.2.1⟩⟩, h.2.2.2⟩
  · exact ⟨⟨q, ky, Or.inr ⟨h0, h.2.1⟩⟩, h.2.2⟩
  · cases h.1
theorem xs_mk {t : TS} {x : TX} {q : Int} {n : Nat} {f g : Nat → Int} (e : x.1 = q) (ky : KYp (tA t 38) (b0T t) q) (h0 : 0 ≤ q) (h2 : (yT t q).2.2.2 = -1) (h3 : (yT t q).1.2.1 = 0) (h5 : (yT t q).2.1 = lsP f g n) (h6 : x.2.1 = (yT t q).2.2.1) (h7 : x.2.2.1.length = n) (h8 : ∀ i, i < n → xcF x i = trF (f i, g i)) (gv : GVx x) : XSp t x := by
  subst e
  exact ⟨n, f, g, ky, h0, h2, h3, h5, h6, h7, h8, gv⟩
theorem rt_xs {t u : TS} {r : Nat} (ok : OK t) (h : RTp t (some r) u) : r = 92 + 4 * (tD t).length ∧ ∃ x, XSp t x ∧ (tD u).map Dhd = (tD t).map Dhd ++ [Dhd x] := by
  obtain ⟨q, ky, h⟩ := h
  rcases h with h | ⟨h0, h | h⟩
  · cases h.2.1
  · cases h.1
  · obtain ⟨h1, h2, h3, n, f, g, st, h4, h5, h6, h7, h8, h9⟩ := h
    have r37 := ok.f fe_37_1
    have w0 : WC (tI t 37 1) (b0T t) := (WC.st (g := tA t 38) (c := (0, 3, 0, 0)) (by decide) r37.1).1
    have w1 := WC.nx (g := tA t 38) w0
    have c1 : CN (tA t 38) (b1T t) := CN.st ⟨by have := w0.1; have := w0.2.1; omega, w0.2.2.1⟩
    obtain ⟨a, ea⟩ : ∃ a, (yT t q).2.2.1 = a := ⟨_, rfl⟩
    rw [ea] at h6 h7
    have gv := rd_gv (g := tA t 38) (n := tI t 37 1) (q := q) (by omega) w1.1 c1 (st := st) h4 h2 h3 h5 ea h7 h8 h9
    have hl : ((row 96 f).take n).length = n := by
      rw [List.length_take, row_len]
      omega
    exact ⟨Option.some.inj h1, (q, a, (row 96 f).take n, (row 96 g).take n, st), xs_mk (q := q) rfl ky h0 h2 h3 h5 ea.symm hl gv.2 gv.1, h6⟩
theorem sm1_of {S : List (Nat × Nat)} {t u v : TS} (f : FrD S t u) (e : v = uI u 37 1 0) (h11 : (1, 11) ∉ S) (h10 : (10, 101) ∉ S) (k11 : (11, 100) ∉ S) (k9 : (9, 100) ∉ S) : sm1 t v := by
  subst e
  refine ⟨?_, fun i => f.2.2 _ h10 i, fun i => f.2.1 _ k11 i, fun i => f.2.1 _ k9 i⟩
  rw [tI_uI, if_neg (by decide)]
  exact f.1 _ _ h11
theorem GD.add {t u : TS} {x : TX} (g : GD t) (h : (tD u).map Dhd = (tD t).map Dhd ++ [Dhd x]) (gx : GVx x) : GD u := by
  have hl : (tD u).length = (tD t).length + 1 := by
    have := congrArg List.length h
    simpa using this
  intro j hj
  have hg : ∀ k, Dhd (tx u k) = (((tD u).map Dhd)[k]?).getD (Dhd (0, 0, [], [], [])) := by
    intro k
    rw [List.getElem?_map]
    unfold tx
    rw [List.getD_eq_getElem?_getD]
    cases (tD u)[k]? <;> rfl
  by_cases e : j < (tD t).length
  · refine (g j e).hd ?_
    rw [hg, h, List.getElem?_append_left (by simpa using e), List.getElem?_map, tx_get e]
    rfl
  · have ej : j = ((tD t).map Dhd).length := by rw [List.length_map]; omega
    refine gx.hd ?_
    rw [hg, h, ej, List.getElem?_append_right (Nat.le_refl _)]
    simp
theorem tx_new {t u : TS} {x : TX} (h : (tD u).map Dhd = (tD t).map Dhd ++ [Dhd x]) : Dhd (tx u (tD t).length) = Dhd x := by
  unfold tx
  rw [List.getD_eq_getElem?_getD]
  have e : ((tD u).map Dhd)[(tD t).length]? = some (Dhd x) := by
    rw [h, List.getElem?_append_right (by simp)]
    simp
  rw [List.getElem?_map] at e
  revert e
  cases (tD u)[(tD t).length]? with
  | none => intro e; cases e
  | some y => intro e; exact Option.some.inj e
theorem xc_n {S : List (Nat × Nat)} {t u v : TS} {z : Int} (h : RTp t none u) (f : FrD S t u) (e : v = uI u 37 1 0) (h11 : (1, 11) ∉ S) (h10 : (10, 101) ∉ S) (k11 : (11, 100) ∉ S) (k9 : (9, 100) ∉ S) (hz : z = -100 - tI v 39 0) : XCp t z v := by
  obtain ⟨a, b⟩ := rt_xf h
  refine Or.inl ⟨tI u 39 0, a, ?_, sm1_of f e h11 h10 k11 k9, by rw [e]; exact b⟩
  rw [hz, e, tI_uI, if_neg (by decide)]
theorem xc_f {S : List (Nat × Nat)} {t u v : TS} {z : Int} {r : Nat} (ok : OK t) (h : RTp t (some r) u) (f : FrD S t u) (e : v = uI u 37 1 0) (h11 : (1, 11) ∉ S) (h10 : (10, 101) ∉ S) (k11 : (11, 100) ∉ S) (k9 : (9, 100) ∉ S) (hc : 14 ≤ tI v 1 11) (hz : z = -1000000003) : XCp t z v := by
  obtain ⟨-, x, a, b⟩ := rt_xs ok h
  have s := sm1_of f e h11 h10 k11 k9
  exact Or.inr ⟨x, a, by rw [e]; exact b, Or.inl ⟨by rw [← s.1]; exact hc, hz, s⟩⟩
theorem xc_s {S S2 : List (Nat × Nat)} {t u v w : TS} {z : Int} {j : Nat} (ok : OK t) (h : RTp t (some (92 + 4 * j)) u) (f : FrD S t u) (e : v = uI u 37 1 0) (h11 : (1, 11) ∉ S) (h10 : (10, 101) ∉ S) (k11 : (11, 100) ∉ S) (k9 : (9, 100) ∉ S) (n10 : (1, 10) ∉ S) (hc : tI v 1 11 < 14) (hz : z = tI v 1 11) (a : ATp v w 1 j) (g : Fr S2 v w) : XCp t z w := by
  obtain ⟨hr, x, b, c⟩ := rt_xs ok h
  have ej : j = (tD t).length := by omega
  subst ej
  have s := sm1_of f e h11 h10 k11 k9
  obtain ⟨s1, s2, s3, s4⟩ := s
  obtain ⟨a1, a2, a3, a4⟩ := a
  have cv : (tD v).map Dhd = (tD t).map Dhd ++ [Dhd x] := by rw [e]; exact c
  have ex : (tx v (tD t).length).1 = x.1 := (Dhd_1 (tx_new cv)).1
  have e10 : tI v 1 10 = tI t 1 10 := by rw [e, tI_uI, if_neg (by decide)]; exact f.1 _ _ n10
  rw [ex] at a3 a4
  refine Or.inr ⟨x, b, g.2.2.2.2.trans cv, Or.inr ⟨by rw [← s1]; exact hc, by rw [hz, s1], by rw [a1, s1], fun i => ?_, fun i => ?_, ?_⟩⟩
  · rw [← s1, ← s2]; exact a2 i
  · rw [← s1, ← s3]; exact a3 i
  · rcases a4 with q | q
    · exact Or.inl ⟨q.1, fun i => (q.2 i).trans (s4 i)⟩
    · exact Or.inr ⟨q.1, by rw [← e10]; exact q.2⟩
theorem gd_v {t u v : TS} {r : Nat} (ok : OK t) (g : GD t) (h : RTp t (some r) u) (e : v = uI u 37 1 0) : GD v := by
  obtain ⟨-, x, b, c⟩ := rt_xs ok h
  obtain ⟨n, f, g2, -, -, -, -, -, -, -, -, gx⟩ := b
  exact GD.add g (by rw [e]; exact c) gx
