section
/-! ===== one text, read by both sides ===== -/
theorem KYp_un {g : Nat → Int} {c : PCu} {q q' : Int} (h : KYp g c q) (h' : KYp g c q') : q = q' := by
  rcases h with ⟨rfl, h⟩ | ⟨rfl, h⟩ | ⟨rfl, h⟩ | ⟨rfl, h⟩ <;> rcases h' with ⟨rfl, h'⟩ | ⟨rfl, h'⟩ | ⟨rfl, h'⟩ | ⟨rfl, h'⟩
  · rfl
  · exact absurd h h'.1
  · exact absurd h h'.1
  · exact absurd h h'.1
  · exact absurd h' h.1
  · rfl
  · exact absurd h.2 h'.2.1
  · exact absurd h.2 h'.2.1
  · exact absurd h' h.1
  · exact absurd h'.2 h.2.1
  · rfl
  · exact absurd h.2.2 h'.2.2
  · exact absurd h' h.1
  · exact absurd h'.2 h.2.1
  · exact absurd h'.2.2 h.2.2
  · rfl
theorem Rft_un {g : Nat → Int} {n q f f' : Int} {s : PSs} (h : Rft g n q s f) (h' : Rft g n q s f') : f = f' := by
  obtain ⟨k, r, e, er⟩ := h
  obtain ⟨k', r', e', er'⟩ := h'
  have u := syr_un e e'
  rw [← er, ← er', u]
theorem Rft_sy {g : Nat → Int} {n q f : Int} {s : PSs} {k : Nat} {r : PRs} (h : Rft g n q s f) (h' : syr g n q k s = some r) : f = r.1 := by
  obtain ⟨j, r', e, er⟩ := h
  rw [← er, syr_un e h']
theorem b_pv {t : TS} (ok : OK t) : WC (tI t 37 1) (b1T t) ∧ ∀ q, PVx (tA t 38) (tI t 37 1) q (yT t q) := by
  have r37 := ok.f fe_37_1
  have w0 : WC (tI t 37 1) (b0T t) := (WC.st (g := tA t 38) (c := (0, 3, 0, 0)) (by decide) r37.1).1
  have w1 := WC.nx (g := tA t 38) w0
  have c1 : CN (tA t 38) (b1T t) := CN.st ⟨by have := w0.1; have := w0.2.1; omega, w0.2.2.1⟩
  exact ⟨w1.1, fun q => RD_PV 80 0 0 0 _ (by decide) ⟨fun p hp => (by cases hp), w1.1, c1⟩⟩
theorem xf_r {t : TS} {f q : Int} (ok : OK t) (h : XFp t f) (ky : KYp (tA t 38) (b0T t) q) (h0 : 0 ≤ q) {T : Nat → Int} (hT : T 0 = 0) : Rft (tA t 38) (tI t 37 1) q (b1T t, [], [], 0, 1, 0, 0, T) f ∧ ¬ f = -1 := by
  obtain ⟨q', ky', h⟩ := h
  have eq := KYp_un ky ky'
  subst eq
  have r37 := ok.f fe_37_1
  obtain ⟨w1, pv⟩ := b_pv ok
  have m := rd_sy (g := tA t 38) (n := tI t 37 1) (q := q) (by omega) w1 hT (M := 80) (by decide)
  rcases h with h | ⟨-, h | h⟩
  · omega
  · exact ⟨by rw [h.2]; exact m.2.2 h.1, by rw [h.2]; exact h.1⟩
  · have p0 := (pv q).2.1.1
    exact ⟨by rw [h.2.2]; exact m.2.1 h.1 h.2.1, by rw [h.2.2]; omega⟩
theorem xs_r {t : TS} {x : TX} (ok : OK t) (h : XSp t x) {T : Nat → Int} (hT : T 0 = 0) : ∃ k, syr (tA t 38) (tI t 37 1) x.1 k (b1T t, [], [], 0, 1, 0, 0, T) = some (-1, ls1 (xcF x) x.2.2.1.length, x.2.1) := by
  obtain ⟨n, f, g, ky, h0, h2, h3, h5, h6, h7, h8, gv⟩ := h
  have r37 := ok.f fe_37_1
  obtain ⟨w1, pv⟩ := b_pv ok
  have m := rd_sy (g := tA t 38) (n := tI t 37 1) (q := x.1) (by omega) w1 hT (M := 80) (by decide)
  obtain ⟨k, hk⟩ := m.1 h2 h3
  refine ⟨k, ?_⟩
  rw [h6, h7]
  have e : (yT t x.1).2.1.map trF = ls1 (xcF x) n := by
    rw [h5, ls1_lsP]
    exact ls1_congr (fun j hj => (h8 j hj).symm)
  rw [← e]
  exact hk
theorem XSp.gv {t : TS} {x : TX} (h : XSp t x) : GVx x := by
  obtain ⟨n, f, g, ky, h0, h2, h3, h5, h6, h7, h8, gv⟩ := h
  exact gv
theorem tx_two {t t1 t2 : TS} {z1 z2 : Int} (ok : OK t) (gd : GD t) (h1 : XCp t z1 t1) (h2 : XTp t1 z2 t2) (g75 : tA t1 75 = tA t 38) (n9 : tI t1 68 9 = tI t 37 1) (e4 : tI t 1 11 = tA t1 69 4) (h14 : tI t 1 11 ≤ 14) : z1 = z2 ∧ GD t1 ∧ HdE t t1 ∧ ((sm1 t t1 ∧ sm69 t1 t2) ∨ ∃ x, XSp t x ∧ (tD t1).map Dhd = (tD t).map Dhd ++ [Dhd x] ∧ tI t 1 11 < 14 ∧ ATq t t1 x ∧ ADp t1 t2 x.1 x.2.2.1.length x.2.1 (xcF x) z2) := by
  have c0 : c0T t1 = b0T t := by unfold c0T b0T; rw [g75, n9]
  have c1 : c1T t1 = b1T t := by unfold c1T b1T; rw [c0, g75, n9]
  obtain ⟨q, ky, h2⟩ := h2
  rw [g75, n9, c0, c1] at h2
  rw [g75, c0] at ky
  rcases h1 with ⟨f, hf, hz, s1, hd⟩ | ⟨x, hx, hd, h1⟩
  · have gd1 : GD t1 := gd.hd hd
    have he : HdE t t1 := HdE.of hd
    rcases h2 with ⟨eq, hz2, s2⟩ | ⟨h0, T0, hT0, h2⟩
    · subst eq
      obtain ⟨q', ky', hf⟩ := hf
      have e := KYp_un ky ky'
      subst e
      rcases hf with k | k
      · exact ⟨by rw [hz, hz2, k.2], gd1, he, Or.inl ⟨s1, s2⟩⟩
      · exact absurd k.1 (by decide)
    · obtain ⟨r, rn⟩ := xf_r ok hf ky h0 hT0
      rcases h2 with ⟨f', hf', h0', hz2, s2⟩ | ⟨k, n, a, g, hs, h2⟩
      · exact ⟨by rw [hz, hz2, Rft_un r hf'], gd1, he, Or.inl ⟨s1, s2⟩⟩
      · exact absurd (Rft_sy r hs) rn
  · have gd1 : GD t1 := GD.add gd hd hx.gv
    have he : HdE t t1 := tx_old hd
    have kx : KYp (tA t 38) (b0T t) x.1 ∧ 0 ≤ x.1 := by
      obtain ⟨n, f, g, k1, k2, -⟩ := hx
      exact ⟨k1, k2⟩
    have e := KYp_un ky kx.1
    subst e
    rcases h2 with ⟨eq, hz2, s2⟩ | ⟨h0, T0, hT0, h2⟩
    · omega
    · obtain ⟨k, hk⟩ := xs_r ok hx hT0
      rcases h2 with ⟨f', hf', h0', hz2, s2⟩ | ⟨k', n, a, g, hs, h2⟩
      · have := Rft_sy hf' hk
        simp only at this
        omega
      · have u := syr_un hk hs
        have u2 := congrArg (fun p : PRs => p.2) (show ((-1 : Int), ls1 (xcF x) x.2.2.1.length, x.2.1) = (-1, ls1 g n, a) from u)
        have u3 := congrArg Prod.fst u2
        have u4 := congrArg Prod.snd u2
        simp only at u3 u4
        obtain ⟨en, ef⟩ := ls1_inj u3
        rcases h2 with ⟨f14, hz2, s2⟩ | ad
        · rcases h1 with ⟨g14, hz1, s1⟩ | ⟨g14, hz1, at'⟩
          · exact ⟨by rw [hz1, hz2], gd1, he, Or.inl ⟨s1, s2⟩⟩
          · exfalso; omega
        · obtain ⟨a1, a2, a3, a4, a5, a6, a7⟩ := ad
          rcases h1 with ⟨g14, hz1, s1⟩ | ⟨g14, hz1, at'⟩
          · exfalso; omega
          · refine ⟨by rw [hz1, a2, e4], gd1, he, Or.inr ⟨x, hx, hd, g14, at', a1, a2, a3, by rw [en]; exact a4, by rw [u4]; exact a5, fun j hj => ?_, a7⟩⟩
            rw [a6 j (by omega)]
            exact (ef j hj).symm
theorem Rnz {t1 t2 : TS} {q z : Int} {n : Nat} {a : Int} {f : Nat → Int} (h : NZ t1 69) (ad : ADp t1 t2 q n a f z) (h4 : 0 ≤ tA t1 69 4) (hn : 1 ≤ n ∧ n ≤ 95) (hq : 0 ≤ q) : NZ t2 69 := by
  obtain ⟨a1, a2, a3, a4, a5, a6, a7⟩ := ad
  intro k hk
  by_cases e : k = (tA t1 69 4).toNat
  · rw [e, a4]
    omega
  · rw [a7 (89 + 2 * k) (by omega) (by omega) (by omega) (by omega)]
    exact h k (by omega)
theorem RT_add {t t1 t2 : TS} {x : TX} {z : Int} (ok1 : OK t1) (h : RT t t1 1 69) (hx0 : 0 ≤ x.1) (hd : (tD t1).map Dhd = (tD t).map Dhd ++ [Dhd x]) (h14 : tI t 1 11 < 14) (at' : ATq t t1 x) (ad : ADp t1 t2 x.1 x.2.2.1.length x.2.1 (xcF x) z) : RT t1 t2 1 69 := by
  obtain ⟨a1, a2, a3, a4, a5, a6, a7⟩ := ad
  obtain ⟨b1, b2, b3, b4⟩ := at'
  obtain ⟨h1, h2, h3, h4⟩ := h
  have he := tx_old hd
  have hl : (tD t1).length = (tD t).length + 1 := by
    have := congrArg List.length hd
    simpa using this
  have hn := tx_new hd
  have hok := (tx_ok ok1 (j := (tD t).length) (by omega)).2.2.1
  have e3 := (Dhd_1 hn).2.2.1
  rw [e3] at hok
  have hok1 := (tx_ok ok1 (j := (tD t).length) (by omega)).1
  rw [(Dhd_1 hn).1] at hok1
  refine ⟨by rw [b1, h1, a3], by omega, fun k hk => ?_, fun q hq => ?_⟩
  · by_cases e : k = (tA t1 69 4).toNat
    · refine ⟨(tD t).length, by omega, ?_, ?_⟩
      · show tT t1 10 k = _
        rw [b2 k, if_pos (by omega)]
      · have hx : TXr x t2 69 k := by
          rw [e]
          exact ⟨by omega, a4, a5, fun i hi => a6 i hi⟩
        exact hx.hd hn
    · obtain ⟨j, hj, ht, hx⟩ := h3 k (by omega)
      refine ⟨j, by omega, ?_, ?_⟩
      · show tT t1 10 k = _
        rw [b2 k, if_neg (by omega)]
        exact ht
      · obtain ⟨x1, x2, x3, x4⟩ := hx
        have hx2 : TXr (tx t j) t2 69 k := by
          refine ⟨x1, ?_, ?_, fun i hi => ?_⟩
          · rw [a7 _ (by omega) (by omega) (by omega) (by omega)]; exact x2
          · rw [a7 _ (by omega) (by omega) (by omega) (by omega)]; exact x3
          · rw [a7 _ (by omega) (by omega) (by omega) (by omega)]; exact x4 i hi
        exact hx2.hd (he.2 j hj)
  · show tA t1 11 q = _
    rw [b3 q]
    have ec : cuA t2 69 q = coF (rkA t2 69) q ((tA t1 69 4).toNat + 1) := by
      unfold cuA
      rw [a3, show (tA t1 69 4 + 1).toNat = (tA t1 69 4).toNat + 1 by omega]
    have ek : rkA t2 69 (tA t1 69 4).toNat = 1000 * x.1 + (x.2.2.1.length : Int) := a4
    rw [ec]
    show _ = if rkA t2 69 (tA t1 69 4).toNat / 1000 = (q : Int) then _ else _
    rw [ek]
    by_cases e : (q : Int) = x.1
    · rw [if_pos (by omega), if_pos (by omega), h1]
      omega
    · rw [if_neg (by omega), if_neg (by omega)]
      have e2 := h4 q hq
      refine e2.trans ?_
      unfold cuA
      refine coF_cg (fun k hk => ?_)
      show tA t1 69 (89 + 2 * k) = tA t2 69 (89 + 2 * k)
      rw [a7 _ (by omega) (by omega) (by omega) (by omega)]
theorem DK_add {t t1 : TS} {x : TX} (ok : OK t) (h : DK t 1 (tI t 1 10)) (rt : RT t t 1 69) (hx0 : 0 ≤ x.1) (he : HdE t t1) (at' : ATq t t1 x) (a1 : ∀ i, tA t1 2 i = tA t 2 i) (a2 : ∀ i, tA t1 3 i = tA t 3 i) (a3 : ∀ i, tA t1 4 i = tA t 4 i) (e10 : tI t1 1 10 = tI t 1 10) : DK t1 1 (tI t1 1 10) := by
  obtain ⟨b1, b2, b3, b4⟩ := at'
  rw [e10]
  rcases b4 with ⟨hk, b4⟩ | ⟨hk, b4⟩
  · intro s r v hs hr hv
    have e9 : tA t1 (1 + 8) ((s * 4 + r) * 2 + v) = tA t (1 + 8) ((s * 4 + r) * 2 + v) := b4 _
    rw [e9, h s r v hs hr hv]
    have hl : lwF t1 1 0 = lwF t 1 0 := by
      have c0 : tA t1 (1 + 10) 0 = tA t (1 + 10) 0 := by
        show tA t1 11 0 = tA t 11 0
        rw [b3 0, if_neg (by omega)]
      have cb := coF_b (rkA t 69) (0 : Nat) (tA t 69 4).toNat
      have c4 := rt.2.2.2 0 (by decide)
      have c1 := rt.1
      have c2 : tA t (1 + 10) 0 = coF (rkA t 69) (0 : Nat) (tA t 69 4).toNat := c4
      have c5 := rt.2.1
      unfold lwF
      rw [c0, b1]
      by_cases q : 0 ≤ tA t (1 + 10) 0 ∧ tA t (1 + 10) 0 ≤ tI t 1 11 - 1
      · rw [if_pos q, if_pos (by omega)]
        show tT t1 10 _ = tT t 10 _
        rw [b2, if_neg (by omega)]
      · rw [if_neg q, if_neg (by omega)]
    unfold dkC
    rw [hl]
    have d1 : tA t1 (1 + 1) s = tA t (1 + 1) s := a1 s
    have d2 : tA t1 (1 + 2) s = tA t (1 + 2) s := a2 s
    have d3 : tA t1 (1 + 3) s = tA t (1 + 3) s := a3 s
    rw [d1, d2, d3]
    unfold pdF
    rw [exF_he he (lwF_ok ok 1 0)]
  · exact b4
end
section
/-! ===== blocks: places and texts ===== -/
theorem RPl.sm {t t1 t2 : TS} {b c : Nat} (v : RPl t t1 b c) (e : t1 = t) (f : t2 = t1) : RPl t1 t2 b c := by
  subst f
  subst e
  exact v
theorem RPl.r {t u u' : TS} {b c : Nat} (v : RPl t u b c) (r : ∀ i, pP i → i < 1461 → tA u' c i = tA u c i) (hn : tI t b 10 ≤ 12) : RPl t u' b c := by
  refine ⟨v.1, v.2.1, fun s hs => ?_⟩
  obtain ⟨k1, k2⟩ := v.2.2 s hs
  refine ⟨?_, ?_⟩
  · show _ = tA u' c (32 + 5 * s)
    rw [r _ ⟨by omega, by omega, by omega⟩ (by omega)]
    exact k1
  · show _ = tA u' c (33 + 5 * s)
    rw [r _ ⟨by omega, by omega, by omega⟩ (by omega)]
    exact k2
theorem RPl.c2 {S2 : List (Nat × Nat)} {t1 t2 : TS} {b c : Nat} (v : RPl t1 t2 b c) (ok1 : OK t1) (hn : tI t1 b 10 ≤ 12) (h14 : tI t1 b 11 ≤ 14) (f2 : FrD S2 t1 t2) (h2 : ∀ p ∈ S2, 68 ≤ p.1) (hb : b < 30) (hd : HdE t1 t2) : RPl t2 t2 b c := by
  refine v.mv ok1 hn h14 (frI f2 h2 b 10 (by omega)) (frI f2 h2 b 11 (by omega)) (fun i _ => frA f2 h2 (b + 1) (by omega) i) (fun i _ => frA f2 h2 (b + 2) (by omega) i) (fun i _ => frA f2 h2 (b + 3) (by omega) i) (fun i _ => frA f2 h2 (b + 4) (by omega) i) (fun i _ => frA f2 h2 (b + 5) (by omega) i) (fun i _ => frA f2 h2 (b + 6) (by omega) i) (fun i _ => frA f2 h2 (b + 8) (by omega) i) (fun i _ => frT f2 h2 (b + 9) (by omega) i) (fun i _ => frA f2 h2 (b + 10) (by omega) i) hd (fun _ _ _ => rfl)
theorem RT.c2 {S2 : List (Nat × Nat)} {t1 t2 : TS} {b c : Nat} (v : RT t1 t2 b c) (f2 : FrD S2 t1 t2) (h2 : ∀ p ∈ S2, 68 ≤ p.1) (hb : b < 30) (hd : HdE t1 t2) : RT t2 t2 b c := v.mv (frI f2 h2 b 11 (by omega)) (fun i _ => frT f2 h2 (b + 9) (by omega) i) (fun i _ => frA f2 h2 (b + 10) (by omega) i) hd (fun _ _ _ => rfl)
theorem RT.sm {t t1 t2 : TS} {b c : Nat} (v : RT t t1 b c) (e : t1 = t) (f : t2 = t1) : RT t1 t2 b c := by
  subst f
  subst e
  exact v
theorem HCt.fr {S : List (Nat × Nat)} {t u : TS} {b : Nat} (h : HCt t b) (f : FrD S t u) (h4 : (b + 4, 100) ∉ S) (h6 : (b + 6, 100) ∉ S) (h10 : (b, 10) ∉ S) : HCt u b := by
  unfold HCt
  rw [funext (f.2.1 _ h4), funext (f.2.1 _ h6), f.1 _ _ h10]
  exact h
theorem DK.fr {S : List (Nat × Nat)} {t u : TS} {b : Nat} {n : Int} (h : DK t b n) (f : FrD S t u) (hd : (tD u).map Dhd = (tD t).map Dhd) (h1 : (b + 1, 100) ∉ S) (h2 : (b + 2, 100) ∉ S) (h3 : (b + 3, 100) ∉ S) (h8 : (b + 8, 100) ∉ S) (h10 : (b + 10, 100) ∉ S) (h11 : (b, 11) ∉ S) (h9 : (b + 9, 101) ∉ S) : DK u b n := by
  intro s r v hs hr hv
  rw [f.2.1 _ h8, h s r v hs hr hv]
  exact (dkC_mv (f.2.1 _ h10) (f.1 _ _ h11) (f.2.2 _ h9) hd (f.2.1 _ h1 s) (f.2.1 _ h2 s) (f.2.1 _ h3 s) r v).symm
theorem CPf {S : List (Nat × Nat)} {t u : TS} {b : Nat} (f : FrD S t u) (h4 : (b + 4, 100) ∉ S) (h5 : (b + 5, 100) ∉ S) : CP u b = CP t b := by
  unfold CP
  rw [funext (f.2.1 _ h4), funext (f.2.1 _ h5)]
theorem OX.pl {t u : TS} {b c : Nat} (h : OX t u b c) : RPl t u b c := h.2.2.2.1
theorem ag_if {n m : Nat} {A B A' B' C C' D D' : Nat → Int} (h : Agr n (A, B) (C, D)) (h1 : ∀ s, A' s = if n ≤ s ∧ s < m then 12 else A s) (h2 : ∀ s, B' s = if n ≤ s ∧ s < m then 0 else B s) (h3 : ∀ s, C' s = if n ≤ s ∧ s < m then 12 else C s) (h4 : ∀ s, D' s = if n ≤ s ∧ s < m then 0 else D s) : Agr m (A', B') (C', D') := by
  intro s hs
  show A' s = C' s ∧ B' s = D' s
  rw [h1, h2, h3, h4]
  by_cases q : n ≤ s ∧ s < m
  · rw [if_pos q, if_pos q, if_pos q, if_pos q]
    exact ⟨rfl, rfl⟩
  · rw [if_neg q, if_neg q, if_neg q, if_neg q]
    exact h s (by omega)
set_option maxRecDepth 100000 in
theorem be_2 {t t1 t2 : TS} {u1 u2 u3 z1 z2 : Int} (f1 : FrD [(1, 10), (2, 100), (3, 100), (4, 100), (5, 100), (6, 100), (9, 100)] t t1) (f2 : FrD [(69, 100)] t1 t2) (g : RG t t 1 2 3 4 8 69) (hp1 : (((¬ (0 ≤ u1 ∧ u1 ≤ 5 ∧ 0 ≤ u2 ∧ u2 ≤ 6 ∧ 0 ≤ u3 ∧ u3 ≤ 6)) ∧ z1 = (-1000000001) ∧ t1 = t) ∨ ((0 ≤ u1 ∧ u1 ≤ 5 ∧ 0 ≤ u2 ∧ u2 ≤ 6 ∧ 0 ≤ u3 ∧ u3 ≤ 6) ∧ (tI t 1 10 = 12) ∧ z1 = (-1000000003) ∧ t1 = t) ∨ ((0 ≤ u1 ∧ u1 ≤ 5 ∧ 0 ≤ u2 ∧ u2 ≤ 6 ∧ 0 ≤ u3 ∧ u3 ≤ 6) ∧ (tI t 1 10 < 12) ∧ z1 = tI t 1 10 ∧ (tI t1 1 10 = tI t 1 10 + 1) ∧ (∀ i, tA t1 2 i = if i = (tI t 1 10).toNat then u1 else tA t 2 i) ∧ (∀ i, tA t1 3 i = if i = (tI t 1 10).toNat then u2 else tA t 3 i) ∧ (∀ i, tA t1 4 i = if i = (tI t 1 10).toNat then u3 else tA t 4 i) ∧ (ASp t t1 1)))) (hp2 : (((¬ (0 ≤ u1 ∧ u1 ≤ 5 ∧ 0 ≤ u2 ∧ u2 ≤ 6 ∧ 0 ≤ u3 ∧ u3 ≤ 6)) ∧ z2 = (-1000000001) ∧ t2 = t1) ∨ ((0 ≤ u1 ∧ u1 ≤ 5 ∧ 0 ≤ u2 ∧ u2 ≤ 6 ∧ 0 ≤ u3 ∧ u3 ≤ 6) ∧ (tA t1 69 1 = 12) ∧ z2 = (-1000000003) ∧ t2 = t1) ∨ ((0 ≤ u1 ∧ u1 ≤ 5 ∧ 0 ≤ u2 ∧ u2 ≤ 6 ∧ 0 ≤ u3 ∧ u3 ≤ 6) ∧ (tA t1 69 1 < 12) ∧ z2 = tA t1 69 1 ∧ (tA t2 69 1 = tA t1 69 1 + 1) ∧ (tA t2 69 (29 + 5 * (tA t1 69 1).toNat) = u1) ∧ (tA t2 69 (30 + 5 * (tA t1 69 1).toNat) = u2) ∧ (tA t2 69 (31 + 5 * (tA t1 69 1).toNat) = u3) ∧ (∀ i, ¬ i = 1 → (i < 29 + 5 * (tA t1 69 1).toNat ∨ 34 + 5 * (tA t1 69 1).toNat ≤ i) → tA t2 69 i = tA t1 69 i) ∧ (tA t2 69 (32 + 5 * (tA t1 69 1).toNat) = 12) ∧ (tA t2 69 (33 + 5 * (tA t1 69 1).toNat) = 0)))) : z1 = z2 ∧ RG t2 t2 1 2 3 4 8 69 := by
  obtain ⟨⟨a1, a2, a3, a4⟩, b1, b2⟩ := g
  have g0 : RG t t 1 2 3 4 8 69 := ⟨⟨a1, a2, a3, a4⟩, b1, b2⟩
  have r := f1.2.1 69 (by simp)
  have cI := frI f2 (by decide)
  have cA := frA f2 (by decide)
  have e10 := cI 1 10 (by decide)
  have e12 := cI 1 12 (by decide)
  have e13 := cI 1 13 (by decide)
  have e14 := cI 1 14 (by decide)
  have r0 := r 0
  have r1 := r 1
  have r2 := r 2
  have r3 := r 3
  have d12 := f1.1 1 12 (by simp)
  have d13 := f1.1 1 13 (by simp)
  have d14 := f1.1 1 14 (by simp)
  rcases hp1 with h | h | h
  · rcases hp2 with k | k | k
    · exact ⟨by rw [h.2.1, k.2.1], by rw [k.2.2, h.2.2]; exact g0⟩
    · exact absurd k.1 h.1
    · exact absurd k.1 h.1
  · rcases hp2 with k | k | k
    · exact absurd h.1 k.1
    · exact ⟨by rw [h.2.2.1, k.2.2.1], by rw [k.2.2.2, h.2.2.2]; exact g0⟩
    · exfalso; have q1 := h.2.1; have q2 := k.2.1; omega
  · rcases hp2 with k | k | k
    · exact absurd h.1 k.1
    · exfalso; have q1 := h.2.1; have q2 := k.2.1; omega
    · obtain ⟨hA, hlt, hz, hn, hk, hl, hr, -⟩ := h
      obtain ⟨kA, klt, kz, kn, kk, kl, kr, ko, -, -⟩ := k
      have en : (tA t1 69 1).toNat = (tI t 1 10).toNat := by rw [r 1, a1]
      rw [en] at kk kl kr ko
      have o0 := ko 0 (by decide) (by omega)
      have o2 := ko 2 (by decide) (by omega)
      have o3 := ko 3 (by decide) (by omega)
      refine ⟨by omega, ⟨by omega, by omega, by omega, by omega⟩, fun i hi => ?_, fun i hi => ?_⟩
      · rw [cA 8 (by decide), f1.2.1 8 (by simp), ko (5 + i) (by omega) (by omega), r]
        exact b1 i hi
      · by_cases q : i = (tI t 1 10).toNat
        · refine ⟨?_, ?_, ?_⟩
          · rw [cA 2 (by decide), hk, if_pos q, q]; exact kk.symm
          · rw [cA 3 (by decide), hl, if_pos q, q]; exact kl.symm
          · rw [cA 4 (by decide), hr, if_pos q, q]; exact kr.symm
        · have hj : (i : Int) < tA t 69 1 := by omega
          refine ⟨?_, ?_, ?_⟩
          · rw [cA 2 (by decide), hk, if_neg q, ko _ (by omega) (by omega), r]; exact (b2 i hj).1
          · rw [cA 3 (by decide), hl, if_neg q, ko _ (by omega) (by omega), r]; exact (b2 i hj).2.1
          · rw [cA 4 (by decide), hr, if_neg q, ko _ (by omega) (by omega), r]; exact (b2 i hj).2.2
set_option maxRecDepth 100000 in
theorem be_6 {t t1 t2 : TS} {u1 u2 z1 z2 : Int} (f1 : FrD [(2, 100), (9, 100)] t t1) (f2 : FrD [(69, 100)] t1 t2) (g : RG t t 1 2 3 4 8 69) (hp1 : (((¬ (0 ≤ u1 ∧ u1 ≤ tI t 1 10 - 1 ∧ 0 ≤ u2 ∧ u2 ≤ 5)) ∧ z1 = (-1000000001) ∧ t1 = t) ∨ ((0 ≤ u1 ∧ u1 ≤ tI t 1 10 - 1 ∧ 0 ≤ u2 ∧ u2 ≤ 5) ∧ z1 = tA t 2 u1.toNat ∧ (∀ i, tA t1 2 i = if i = u1.toNat then u2 else tA t 2 i) ∧ (DK t1 1 (tI t 1 10))))) (hp2 : (((¬ (0 ≤ u1 ∧ u1 ≤ tA t1 69 1 - 1 ∧ 0 ≤ u2 ∧ u2 ≤ 5)) ∧ z2 = (-1000000001) ∧ t2 = t1) ∨ ((0 ≤ u1 ∧ u1 ≤ tA t1 69 1 - 1 ∧ 0 ≤ u2 ∧ u2 ≤ 5) ∧ z2 = tA t1 69 (29 + 5 * u1).toNat ∧ (t2 = uA t1 69 (29 + 5 * u1).toNat u2)))) : z1 = z2 ∧ RG t2 t2 1 2 3 4 8 69 := by
  obtain ⟨⟨a1, a2, a3, a4⟩, b1, b2⟩ := g
  have g0 : RG t t 1 2 3 4 8 69 := ⟨⟨a1, a2, a3, a4⟩, b1, b2⟩
  have r := f1.2.1 69 (by simp)
  have cI := frI f2 (by decide)
  have cA := frA f2 (by decide)
  have e10 := cI 1 10 (by decide)
  have e12 := cI 1 12 (by decide)
  have e13 := cI 1 13 (by decide)
  have e14 := cI 1 14 (by decide)
  have r0 := r 0
  have r1 := r 1
  have r2 := r 2
  have r3 := r 3
  have d10 := f1.1 1 10 (by simp)
  have d12 := f1.1 1 12 (by simp)
  have d13 := f1.1 1 13 (by simp)
  have d14 := f1.1 1 14 (by simp)
  rcases hp1 with h | h
  · rcases hp2 with k | k
    · exact ⟨by rw [h.2.1, k.2.1], by rw [k.2.2, h.2.2]; exact g0⟩
    · exfalso; have q1 := h.1; have q2 := k.1; omega
  · rcases hp2 with k | k
    · exfalso; have q1 := h.1; have q2 := k.1; omega
    · obtain ⟨hA, hz, hk, -⟩ := h
      obtain ⟨kA, kz, kt⟩ := k
      have ko : ∀ i, tA t2 69 i = if i = 29 + 5 * u1.toNat then u2 else tA t1 69 i := by
        intro i
        rw [kt, tA_uA, show (29 + 5 * u1).toNat = 29 + 5 * u1.toNat by omega]
        simp
      rw [show (29 + 5 * u1).toNat = 29 + 5 * u1.toNat by omega] at kz
      have hs : (u1.toNat : Int) < tA t 69 1 := by omega
      have bs := b2 _ hs
      have rs := r (29 + 5 * u1.toNat)
      have o0 := ko 0
      have o1 := ko 1
      have o2 := ko 2
      have o3 := ko 3
      rw [if_neg (by omega)] at o0 o1 o2 o3
      refine ⟨by omega, ⟨by omega, by omega, by omega, by omega⟩, fun i hi => ?_, fun i hi => ?_⟩
      · rw [cA 8 (by decide), f1.2.1 8 (by simp), ko, if_neg (by omega), r]
        exact b1 i hi
      · have hj : (i : Int) < tA t 69 1 := by omega
        refine ⟨?_, ?_, ?_⟩
        · rw [cA 2 (by decide), hk, ko]
          by_cases q : i = u1.toNat
          · rw [if_pos q, if_pos (by omega)]
          · rw [if_neg q, if_neg (by omega), r]; exact (b2 i hj).1
        · rw [cA 3 (by decide), f1.2.1 3 (by simp), ko, if_neg (by omega), r]; exact (b2 i hj).2.1
        · rw [cA 4 (by decide), f1.2.1 4 (by simp), ko, if_neg (by omega), r]; exact (b2 i hj).2.2
set_option maxRecDepth 100000 in
theorem be_11 {t t1 t2 : TS} {u1 z1 z2 : Int} (f1 : FrD [(1, 10), (1, 14), (2, 100), (3, 100), (4, 100), (5, 100), (6, 100), (9, 100)] t t1) (f2 : FrD [(69, 100)] t1 t2) (g : RG t t 1 2 3 4 8 69) (hp1 : (((¬ (1 ≤ u1 ∧ u1 ≤ 12)) ∧ z1 = (-1000000001) ∧ t1 = t) ∨ ((1 ≤ u1 ∧ u1 ≤ 12) ∧ z1 = min u1 (12 - tI t 1 10) ∧ (tI t1 1 10 = tI t 1 10 + min u1 (12 - tI t 1 10)) ∧ (tI t1 1 14 = dzF (min u1 (12 - tI t 1 10)).toNat (tI t 1 14)) ∧ (∀ m : Nat, tA t1 2 m = if tI t 1 10 ≤ (m : Int) ∧ (m : Int) < tI t 1 10 + min u1 (12 - tI t 1 10) then kdF (tI t 1 14) (m - (tI t 1 10).toNat) else tA t 2 m) ∧ (∀ m : Nat, tA t1 3 m = if tI t 1 10 ≤ (m : Int) ∧ (m : Int) < tI t 1 10 + min u1 (12 - tI t 1 10) then ldF (tI t 1 14) (m - (tI t 1 10).toNat) else tA t 3 m) ∧ (∀ m : Nat, tA t1 4 m = if tI t 1 10 ≤ (m : Int) ∧ (m : Int) < tI t 1 10 + min u1 (12 - tI t 1 10) then rdF (tI t 1 14) (m - (tI t 1 10).toNat) else tA t 4 m) ∧ (∀ m : Nat, tA t1 5 m = if tI t 1 10 ≤ (m : Int) ∧ (m : Int) < tI t 1 10 + min u1 (12 - tI t 1 10) then 12 else tA t 5 m) ∧ (∀ m : Nat, tA t1 6 m = if tI t 1 10 ≤ (m : Int) ∧ (m : Int) < tI t 1 10 + min u1 (12 - tI t 1 10) then 0 else tA t 6 m) ∧ (HCt t1 1) ∧ (DK t1 1 (tI t1 1 10))))) (hp2 : (((¬ (1 ≤ u1 ∧ u1 ≤ 12)) ∧ z2 = (-1000000001) ∧ t2 = t1) ∨ ((1 ≤ u1 ∧ u1 ≤ 12) ∧ z2 = min u1 (12 - tA t1 69 1) ∧ (tA t2 69 1 = tA t1 69 1 + min u1 (12 - tA t1 69 1)) ∧ (tA t2 69 0 = dzF (min u1 (12 - tA t1 69 1)).toNat (tA t1 69 0)) ∧ (∀ m : Nat, tA t2 69 (29 + 5 * m) = if tA t1 69 1 ≤ (m : Int) ∧ (m : Int) < tA t1 69 1 + min u1 (12 - tA t1 69 1) then kdF (tA t1 69 0) (m - (tA t1 69 1).toNat) else tA t1 69 (29 + 5 * m)) ∧ (∀ m : Nat, tA t2 69 (30 + 5 * m) = if tA t1 69 1 ≤ (m : Int) ∧ (m : Int) < tA t1 69 1 + min u1 (12 - tA t1 69 1) then ldF (tA t1 69 0) (m - (tA t1 69 1).toNat) else tA t1 69 (30 + 5 * m)) ∧ (∀ m : Nat, tA t2 69 (31 + 5 * m) = if tA t1 69 1 ≤ (m : Int) ∧ (m : Int) < tA t1 69 1 + min u1 (12 - tA t1 69 1) then rdF (tA t1 69 0) (m - (tA t1 69 1).toNat) else tA t1 69 (31 + 5 * m)) ∧ (∀ m : Nat, tA t2 69 (32 + 5 * m) = if tA t1 69 1 ≤ (m : Int) ∧ (m : Int) < tA t1 69 1 + min u1 (12 - tA t1 69 1) then 12 else tA t1 69 (32 + 5 * m)) ∧ (∀ m : Nat, tA t2 69 (33 + 5 * m) = if tA t1 69 1 ≤ (m : Int) ∧ (m : Int) < tA t1 69 1 + min u1 (12 - tA t1 69 1) then 0 else tA t1 69 (33 + 5 * m)) ∧ (∀ i, ¬ i = 0 → ¬ i = 1 → (i < 29 ∨ 89 ≤ i) → tA t2 69 i = tA t1 69 i)))) : z1 = z2 ∧ RG t2 t2 1 2 3 4 8 69 := by
  obtain ⟨⟨a1, a2, a3, a4⟩, b1, b2⟩ := g
  have g0 : RG t t 1 2 3 4 8 69 := ⟨⟨a1, a2, a3, a4⟩, b1, b2⟩
  have r := f1.2.1 69 (by simp)
  have cI := frI f2 (by decide)
  have cA := frA f2 (by decide)
  have e10 := cI 1 10 (by decide)
  have e12 := cI 1 12 (by decide)
  have e13 := cI 1 13 (by decide)
  have e14 := cI 1 14 (by decide)
  have r0 := r 0
  have r1 := r 1
  have r2 := r 2
  have r3 := r 3
  have d12 := f1.1 1 12 (by simp)
  have d13 := f1.1 1 13 (by simp)
  rcases hp1 with h | h
  · rcases hp2 with k | k
    · exact ⟨by rw [h.2.1, k.2.1], by rw [k.2.2, h.2.2]; exact g0⟩
    · exact absurd k.1 h.1
  · rcases hp2 with k | k
    · exact absurd h.1 k.1
    · obtain ⟨hA, hz, hn, hd, hk, hl, hr, -, -, -, -⟩ := h
      obtain ⟨kA, kz, kn, kd, kk, kl, kr, -, -, ko⟩ := k
      have e1 : tA t1 69 1 = tI t 1 10 := by omega
      have e0 : tA t1 69 0 = tI t 1 14 := by omega
      rw [e1] at kz kn kk kl kr
      rw [e1, e0] at kd
      rw [e0] at kk kl kr
      have o2 := ko 2 (by decide) (by decide) (by decide)
      have o3 := ko 3 (by decide) (by decide) (by decide)
      refine ⟨by omega, ⟨by omega, by omega, by omega, by omega⟩, fun i hi => ?_, fun i hi => ?_⟩
      · rw [cA 8 (by decide), f1.2.1 8 (by simp), ko (5 + i) (by omega) (by omega) (by omega), r]
        exact b1 i hi
      · rw [cA 2 (by decide), cA 3 (by decide), cA 4 (by decide), hk, hl, hr, kk, kl, kr]
        by_cases q : tI t 1 10 ≤ (i : Int) ∧ (i : Int) < tI t 1 10 + min u1 (12 - tI t 1 10)
        · rw [if_pos q, if_pos q, if_pos q, if_pos q, if_pos q, if_pos q]
          exact ⟨rfl, rfl, rfl⟩
        · rw [if_neg q, if_neg q, if_neg q, if_neg q, if_neg q, if_neg q, r, r, r]
          exact b2 i (by omega)
set_option maxRecDepth 100000 in
theorem be_13 {t t1 t2 : TS} {u1 z1 z2 : Int} (f1 : FrD [(1, 13), (1, 14), (5, 100), (6, 100), (7, 100)] t t1) (f2 : FrD [(69, 100), (81, 100), (82, 100)] t1 t2) (g : RG t t 1 2 3 4 8 69) (hp1 : (((¬ (1 ≤ u1 ∧ u1 ≤ 100)) ∧ z1 = (-1000000001) ∧ t1 = t) ∨ ((1 ≤ u1 ∧ u1 ≤ 100) ∧ z1 = cnX t 1 (min u1 (9999 - tI t 1 13)).toNat - cnX t 1 0 ∧ (tI t1 1 14 = zdsF (min u1 (9999 - tI t 1 13)).toNat (tI t 1 14) (tI t 1 12)) ∧ (tI t1 1 13 = tI t 1 13 + min u1 (9999 - tI t 1 13)) ∧ (GLp t t1 1 (dysF (tI t 1 10).toNat (OC t 1) (tI t 1 12) (tI t 1 14) (min u1 (9999 - tI t 1 13)).toNat (CP t 1)))))) (hp2 : (Dq t1 t2) ∧ (((¬ (1 ≤ u1 ∧ u1 ≤ 100)) ∧ z2 = (-1000000001) ∧ (∀ i, tA t2 69 i = tA t1 69 i)) ∨ ((1 ≤ u1 ∧ u1 ≤ 100) ∧ z2 = caA t1 69 (min u1 (9999 - tA t1 69 2)).toNat - caA t1 69 0 ∧ (tA t2 69 0 = zdsF (min u1 (9999 - tA t1 69 2)).toNat (tA t1 69 0) (tA t1 69 3)) ∧ (tA t2 69 2 = tA t1 69 2 + min u1 (9999 - tA t1 69 2)) ∧ (GRp t1 t2 (dysF (tA t1 69 1).toNat (OA t1 69) (tA t1 69 3) (tA t1 69 0) (min u1 (9999 - tA t1 69 2)).toNat (RPt t1)))))) : True ∧ RG t2 t2 1 2 3 4 8 69 := by
  obtain ⟨⟨a1, a2, a3, a4⟩, b1, b2⟩ := g
  have g0 : RG t t 1 2 3 4 8 69 := ⟨⟨a1, a2, a3, a4⟩, b1, b2⟩
  have r := f1.2.1 69 (by simp)
  have cI := frI f2 (by decide)
  have cA := frA f2 (by decide)
  have e10 := cI 1 10 (by decide)
  have e12 := cI 1 12 (by decide)
  have e13 := cI 1 13 (by decide)
  have e14 := cI 1 14 (by decide)
  have r0 := r 0
  have r1 := r 1
  have r2 := r 2
  have r3 := r 3
  have d10 := f1.1 1 10 (by simp)
  have d12 := f1.1 1 12 (by simp)
  have hp3 := hp1
  have hp4 := hp2.2
  have dq := hp2.1
  rcases hp3 with h | h
  · rcases hp4 with k | k
    · exact ⟨trivial, by rw [h.2.2] at r cI cA f2 e10 e12 e13 e14; exact RG.c (RG.r (by rw [← h.2.2] at g0 ⊢; exact g0) k.2.2) f2 (fun p q e => by have := (show (69, 100) = p ∨ (81, 100) = p ∨ (82, 100) = p by simpa [eq_comm] using q); rcases this with w | w | w <;> (rw [← w] at e; simp at e))⟩
    · exact absurd k.1 h.1
  · rcases hp4 with k | k
    · exact absurd h.1 k.1
    · obtain ⟨hA, -, hz, hd, -⟩ := h
      obtain ⟨kA, -, kz, kd, -⟩ := k
      rw [show tA t1 69 2 = tI t 1 13 by omega, show tA t1 69 0 = tI t 1 14 by omega, show tA t1 69 3 = tI t 1 12 by omega] at kz
      have ko : ∀ i, ¬ i = 0 → ¬ i = 2 → (i < 29 ∨ 89 ≤ i ∨ (i - 29) % 5 < 3) → tA t2 69 i = tA t1 69 i := dq
      have o1 := ko 1 (by decide) (by decide) (by decide)
      have o3 := ko 3 (by decide) (by decide) (by decide)
      refine ⟨trivial, ⟨by omega, by omega, by omega, by omega⟩, fun i hi => ?_, fun i hi => ?_⟩
      · rw [cA 8 (by decide), f1.2.1 8 (by simp), ko (5 + i) (by omega) (by omega) (by omega), r]
        exact b1 i hi
      · have hj : (i : Int) < tA t 69 1 := by omega
        refine ⟨?_, ?_, ?_⟩
        · rw [cA 2 (by decide), f1.2.1 2 (by simp), ko _ (by omega) (by omega) (by omega), r]; exact (b2 i hj).1
        · rw [cA 3 (by decide), f1.2.1 3 (by simp), ko _ (by omega) (by omega) (by omega), r]; exact (b2 i hj).2.1
        · rw [cA 4 (by decide), f1.2.1 4 (by simp), ko _ (by omega) (by omega) (by omega), r]; exact (b2 i hj).2.2
set_option maxRecDepth 100000 in
theorem be_27 {t t1 t2 : TS} {u1 u2 u3 z1 z2 : Int} (f1 : FrD [(37, 1), (38, 100)] t t1) (f2 : FrD [(68, 9), (75, 100)] t1 t2) (rm : RM t t) (hp1 : (((96 < tI t 37 1 + 12) ∧ z1 = (-1000000003) ∧ t1 = t) ∨ ((tI t 37 1 + 12 ≤ 96) ∧ z1 = tI t 37 1 + 12 ∧ (tI t1 37 1 = tI t 37 1 + 12) ∧ (∀ m : Nat, tA t1 38 m = if tI t 37 1 ≤ (m : Int) ∧ (m : Int) < tI t 37 1 + 12 then fbF u1 u2 u3 (m - (tI t 37 1).toNat) else tA t 38 m)))) (hp2 : (((96 < tI t1 68 9 + 12) ∧ z2 = (-1000000003) ∧ t2 = t1) ∨ ((tI t1 68 9 + 12 ≤ 96) ∧ z2 = tI t1 68 9 + 12 ∧ (tI t2 68 9 = tI t1 68 9 + 12) ∧ (∀ m : Nat, tA t2 75 m = if tI t1 68 9 ≤ (m : Int) ∧ (m : Int) < tI t1 68 9 + 12 then fbF u1 u2 u3 (m - (tI t1 68 9).toNat) else tA t1 75 m)))) : z1 = z2 ∧ RM t2 t2 := by
  obtain ⟨m1, m2, m3, m4⟩ := rm
  have rm0 : RM t t := ⟨m1, m2, m3, m4⟩
  have cI := frI f2 (by decide)
  have cA := frA f2 (by decide)
  have e9 := cI 0 9 (by decide)
  have e8 := cI 0 8 (by decide)
  have e1 := cI 37 1 (by decide)
  have p3 := f1.1 68 3 (by simp)
  have p35 := f1.1 68 35 (by simp)
  have p9 := f1.1 68 9 (by simp)
  have x9 := f1.1 0 9 (by simp)
  have y3 := f2.1 68 3 (by simp)
  have x8 := f1.1 0 8 (by simp)
  have y35 := f2.1 68 35 (by simp)
  rcases hp1 with h | h
  · rcases hp2 with k | k
    · exact ⟨by rw [h.2.1, k.2.1], by rw [k.2.2, h.2.2]; exact rm0⟩
    · exfalso; have q1 := h.1; have q2 := k.1; omega
  · rcases hp2 with k | k
    · exfalso; have q1 := h.1; have q2 := k.1; omega
    · have h2 := h.2.1
      have h3 := h.2.2.1
      have k2 := k.2.1
      have k3 := k.2.2.1
      exact ⟨by omega, by omega, by omega, by omega, fun i hi => by rw [cA 44 (by decide), f1.2.1 44 (by simp), f2.2.1 91 (by simp), f1.2.1 91 (by simp)]; exact m4 i (by omega)⟩
set_option maxRecDepth 100000 in
theorem be_29 {t t1 t2 : TS} {z1 z2 : Int} (f1 : FrD [(39, 0), (39, 4), (39, 5), (39, 7), (39, 8), (39, 9), (39, 10), (40, 100), (41, 100), (39, 6), (37, 1), (1, 11), (10, 101), (11, 100), (9, 100)] t t1) (f2 : FrD [(68, 10), (68, 11), (68, 12), (68, 13), (68, 14), (68, 9), (68, 15), (68, 19), (68, 20), (68, 22), (69, 100), (78, 100), (79, 100), (80, 100)] t1 t2) (rm : RM t t) (hp1 : (tI t1 37 1 = 0) ∧ (-2147483648 ≤ z1) ∧ (z1 ≤ 2147483647) ∧ (XCp t z1 t1)) (hp2 : (-2147483648 ≤ z2) ∧ (z2 ≤ 2147483647) ∧ (tI t2 68 9 = 0) ∧ (WF t2 69) ∧ (∀ i, ¬ i = 4 → i < 89 → tA t2 69 i = tA t1 69 i) ∧ (XTp t1 z2 t2)) : True ∧ RM t2 t2 := by
  obtain ⟨m1, m2, m3, m4⟩ := rm
  have rm0 : RM t t := ⟨m1, m2, m3, m4⟩
  have cI := frI f2 (by decide)
  have cA := frA f2 (by decide)
  have e9 := cI 0 9 (by decide)
  have e8 := cI 0 8 (by decide)
  have e1 := cI 37 1 (by decide)
  have p3 := f1.1 68 3 (by simp)
  have p35 := f1.1 68 35 (by simp)
  have p9 := f1.1 68 9 (by simp)
  have x9 := f1.1 0 9 (by simp)
  have y3 := f2.1 68 3 (by simp)
  have x8 := f1.1 0 8 (by simp)
  have y35 := f2.1 68 35 (by simp)
  have h3 := hp1.1
  have k3 := hp2.2.2.1
  exact ⟨trivial, by omega, by omega, by omega, fun i hi => by rw [cA 44 (by decide), f1.2.1 44 (by simp), f2.2.1 91 (by simp), f1.2.1 91 (by simp)]; exact m4 i (by omega)⟩
set_option maxRecDepth 100000 in
theorem be_42 {t t1 t2 : TS} {u1 z1 z2 : Int} (f1 : FrD [(0, 8), (24, 10), (24, 11), (24, 12), (24, 13), (24, 14), (25, 100), (26, 100), (27, 100), (28, 100), (29, 100), (30, 100), (31, 100), (32, 100), (34, 100), (33, 101)] t t1) (f2 : FrD [(68, 35), (69, 100), (71, 100), (81, 100), (82, 100)] t1 t2) (rm : RM t t) (hp1 : (tI t1 0 8 = 0) ∧ (((¬ (1 ≤ u1 ∧ u1 ≤ 30)) ∧ z1 = (-1000000001)) ∨ ((1 ≤ u1 ∧ u1 ≤ 30) ∧ (tI t 0 9 = 0) ∧ z1 = (-1000000002)) ∨ ((1 ≤ u1 ∧ u1 ≤ 30) ∧ (¬ tI t 0 9 = 0) ∧ (CkP (pcX t 12) (mtX t 12) (tA t 44) (tI t 0 8) (2 * (min u1 (9999 - tI t 12 13))) z1)))) (hp2 : (tI t2 68 35 = 0) ∧ (∀ i : Nat, i < 1461 → tA t2 69 i = tA t1 69 i) ∧ (((¬ (1 ≤ u1 ∧ u1 ≤ 30)) ∧ z2 = (-1000000001)) ∨ ((1 ≤ u1 ∧ u1 ≤ 30) ∧ (tI t1 68 3 = 0) ∧ z2 = (-1000000002)) ∨ ((1 ≤ u1 ∧ u1 ≤ 30) ∧ (¬ tI t1 68 3 = 0) ∧ (CkP (pcA t1 70) (mtA t1 70) (tA t1 91) (tI t1 68 35) (2 * (min u1 (9999 - tA t1 70 2))) z2)))) : True ∧ RM t2 t2 := by
  obtain ⟨m1, m2, m3, m4⟩ := rm
  have rm0 : RM t t := ⟨m1, m2, m3, m4⟩
  have cI := frI f2 (by decide)
  have cA := frA f2 (by decide)
  have e9 := cI 0 9 (by decide)
  have e8 := cI 0 8 (by decide)
  have e1 := cI 37 1 (by decide)
  have p3 := f1.1 68 3 (by simp)
  have p35 := f1.1 68 35 (by simp)
  have p9 := f1.1 68 9 (by simp)
  have x9 := f1.1 0 9 (by simp)
  have y3 := f2.1 68 3 (by simp)
  have x1 := f1.1 37 1 (by simp)
  have y9 := f2.1 68 9 (by simp)
  have h3 := hp1.1
  have k3 := hp2.1
  exact ⟨trivial, by omega, by omega, by omega, fun i hi => by exfalso; omega⟩
set_option maxRecDepth 100000 in
theorem bx_2 {t t1 t2 : TS} {u1 u2 u3 z1 z2 : Int} (f1 : FrD [(1, 10), (2, 100), (3, 100), (4, 100), (5, 100), (6, 100), (9, 100)] t t1) (f2 : FrD [(69, 100)] t1 t2) (ox : OX t t1 1 69) (hd1 : (tD t1).map Dhd = (tD t).map Dhd) (n0 : 0 ≤ tI t 1 10) (hp1 : (((¬ (0 ≤ u1 ∧ u1 ≤ 5 ∧ 0 ≤ u2 ∧ u2 ≤ 6 ∧ 0 ≤ u3 ∧ u3 ≤ 6)) ∧ z1 = (-1000000001) ∧ t1 = t) ∨ ((0 ≤ u1 ∧ u1 ≤ 5 ∧ 0 ≤ u2 ∧ u2 ≤ 6 ∧ 0 ≤ u3 ∧ u3 ≤ 6) ∧ (tI t 1 10 = 12) ∧ z1 = (-1000000003) ∧ t1 = t) ∨ ((0 ≤ u1 ∧ u1 ≤ 5 ∧ 0 ≤ u2 ∧ u2 ≤ 6 ∧ 0 ≤ u3 ∧ u3 ≤ 6) ∧ (tI t 1 10 < 12) ∧ z1 = tI t 1 10 ∧ (tI t1 1 10 = tI t 1 10 + 1) ∧ (∀ i, tA t1 2 i = if i = (tI t 1 10).toNat then u1 else tA t 2 i) ∧ (∀ i, tA t1 3 i = if i = (tI t 1 10).toNat then u2 else tA t 3 i) ∧ (∀ i, tA t1 4 i = if i = (tI t 1 10).toNat then u3 else tA t 4 i) ∧ (ASp t t1 1)))) (hp2 : (((¬ (0 ≤ u1 ∧ u1 ≤ 5 ∧ 0 ≤ u2 ∧ u2 ≤ 6 ∧ 0 ≤ u3 ∧ u3 ≤ 6)) ∧ z2 = (-1000000001) ∧ t2 = t1) ∨ ((0 ≤ u1 ∧ u1 ≤ 5 ∧ 0 ≤ u2 ∧ u2 ≤ 6 ∧ 0 ≤ u3 ∧ u3 ≤ 6) ∧ (tA t1 69 1 = 12) ∧ z2 = (-1000000003) ∧ t2 = t1) ∨ ((0 ≤ u1 ∧ u1 ≤ 5 ∧ 0 ≤ u2 ∧ u2 ≤ 6 ∧ 0 ≤ u3 ∧ u3 ≤ 6) ∧ (tA t1 69 1 < 12) ∧ z2 = tA t1 69 1 ∧ (tA t2 69 1 = tA t1 69 1 + 1) ∧ (tA t2 69 (29 + 5 * (tA t1 69 1).toNat) = u1) ∧ (tA t2 69 (30 + 5 * (tA t1 69 1).toNat) = u2) ∧ (tA t2 69 (31 + 5 * (tA t1 69 1).toNat) = u3) ∧ (∀ i, ¬ i = 1 → (i < 29 + 5 * (tA t1 69 1).toNat ∨ 34 + 5 * (tA t1 69 1).toNat ≤ i) → tA t2 69 i = tA t1 69 i) ∧ (tA t2 69 (32 + 5 * (tA t1 69 1).toNat) = 12) ∧ (tA t2 69 (33 + 5 * (tA t1 69 1).toNat) = 0)))) : RPl t1 t2 1 69 := by
  have pl := ox.pl
  have hn := ox.n
  obtain ⟨pl1, pl2, pl3⟩ := ox.pl
  rcases hp1 with h | h | h
  · rcases hp2 with k | k | k
    · exact pl.sm h.2.2 k.2.2
    · exact absurd k.1 h.1
    · exact absurd k.1 h.1
  · rcases hp2 with k | k | k
    · exact absurd h.1 k.1
    · exact pl.sm h.2.2.2 k.2.2.2
    · exfalso; have q1 := h.2.1; have q2 := k.2.1; omega
  · rcases hp2 with k | k | k
    · exact absurd h.1 k.1
    · exfalso; have q1 := h.2.1; have q2 := k.2.1; omega
    · obtain ⟨hA, hlt, hz, hn1, hk, hl, hr, ha⟩ := h
      obtain ⟨kA, klt, kz, kn, kk, kl, kr, ko, k32, k33⟩ := k
      rw [← hn] at ko k32 k33
      refine ⟨as_hc pl1 ha (f1.2.1 7 (by simp)) hn1 n0, as_dk pl2 ha hn1 n0 (f1.2.1 11 (by simp)) (f1.1 1 11 (by simp)) (f1.2.2 10 (by simp)) hd1 (fun i q => by rw [hk, if_neg q]) (fun i q => by rw [hl, if_neg q]) (fun i q => by rw [hr, if_neg q]), fun s hs => ?_⟩
      have c4 : (CP t1 1).1 s = if s = (tI t 1 10).toNat then 12 else tA t (1 + 4) s := ha.1 s
      have c5 : (CP t1 1).2 s = if s = (tI t 1 10).toNat then 0 else tA t (1 + 5) s := ha.2.1 s
      show (CP t1 1).1 s = tA t2 69 (32 + 5 * s) ∧ (CP t1 1).2 s = tA t2 69 (33 + 5 * s)
      rw [c4, c5]
      by_cases q : s = (tI t 1 10).toNat
      · rw [if_pos q, if_pos q, q, k32, k33]
        exact ⟨rfl, rfl⟩
      · rw [if_neg q, if_neg q, ko _ (by omega) (by omega), ko _ (by omega) (by omega)]
        exact pl3 s (by omega)
set_option maxRecDepth 100000 in
theorem bx_3 {t t1 t2 : TS} {u1 u2 z1 z2 : Int} (f1 : FrD [] t t1) (f2 : FrD [] t1 t2) (ox : OX t t1 1 69) (hp1 : (((¬ (0 ≤ u1 ∧ u1 ≤ tI t 1 10 - 1) ∨ ¬ (0 ≤ u2 ∧ u2 ≤ 6)) ∧ z1 = (-1000000001)) ∨ ((0 ≤ u1 ∧ u1 ≤ tI t 1 10 - 1) ∧ (u2 = 0) ∧ z1 = tA t 2 u1.toNat) ∨ ((0 ≤ u1 ∧ u1 ≤ tI t 1 10 - 1) ∧ (u2 = 1) ∧ z1 = tA t 3 u1.toNat) ∨ ((0 ≤ u1 ∧ u1 ≤ tI t 1 10 - 1) ∧ (u2 = 2) ∧ z1 = tA t 4 u1.toNat) ∨ ((0 ≤ u1 ∧ u1 ≤ tI t 1 10 - 1) ∧ (u2 = 3) ∧ z1 = tA t 5 u1.toNat) ∨ ((0 ≤ u1 ∧ u1 ≤ tI t 1 10 - 1) ∧ (u2 = 4) ∧ z1 = tA t 6 u1.toNat) ∨ ((0 ≤ u1 ∧ u1 ≤ tI t 1 10 - 1) ∧ (u2 = 5) ∧ z1 = hvF (tA t 2 u1.toNat) (tA t 3 u1.toNat) (tA t 4 u1.toNat)) ∨ ((0 ≤ u1 ∧ u1 ≤ tI t 1 10 - 1) ∧ (u2 = 6) ∧ z1 = woF (tA t 2 u1.toNat) (tA t 3 u1.toNat) (tA t 4 u1.toNat)))) (hp2 : (((¬ (0 ≤ u1 ∧ u1 ≤ tA t1 69 1 - 1) ∨ ¬ (0 ≤ u2 ∧ u2 ≤ 6)) ∧ z2 = (-1000000001)) ∨ ((0 ≤ u1 ∧ u1 ≤ tA t1 69 1 - 1) ∧ (0 ≤ u2 ∧ u2 ≤ 4) ∧ z2 = tA t1 69 (29 + 5 * u1.toNat + u2.toNat)) ∨ ((0 ≤ u1 ∧ u1 ≤ tA t1 69 1 - 1) ∧ (u2 = 5) ∧ z2 = hvA t1 69 u1.toNat) ∨ ((0 ≤ u1 ∧ u1 ≤ tA t1 69 1 - 1) ∧ (u2 = 6) ∧ z2 = woF (tA t1 69 (29 + 5 * u1.toNat)) (tA t1 69 (30 + 5 * u1.toNat)) (tA t1 69 (31 + 5 * u1.toNat))))) : z1 = z2 := by
  have hn := ox.n
  have h12 := ox.2.2.2.2.1
  by_cases q : 0 ≤ u1 ∧ u1 ≤ tI t 1 10 - 1
  · obtain ⟨a1, a2, a3⟩ := ox.2.2.1.2.2 u1.toNat (by omega)
    obtain ⟨b1, b2⟩ := ox.cp (s := u1.toNat) (by omega)
    have a1' : tA t 2 u1.toNat = tA t1 69 (29 + 5 * u1.toNat) := a1
    have a2' : tA t 3 u1.toNat = tA t1 69 (30 + 5 * u1.toNat) := a2
    have a3' : tA t 4 u1.toNat = tA t1 69 (31 + 5 * u1.toNat) := a3
    have b1' : tA t 5 u1.toNat = tA t1 69 (32 + 5 * u1.toNat) := b1
    have b2' : tA t 6 u1.toNat = tA t1 69 (33 + 5 * u1.toNat) := b2
    have eh : hvF (tA t 2 u1.toNat) (tA t 3 u1.toNat) (tA t 4 u1.toNat) = hvA t1 69 u1.toNat := by rw [a1', a2', a3']; rfl
    rw [eh] at hp1
    have ew : woF (tA t 2 u1.toNat) (tA t 3 u1.toNat) (tA t 4 u1.toNat) = woF (tA t1 69 (29 + 5 * u1.toNat)) (tA t1 69 (30 + 5 * u1.toNat)) (tA t1 69 (31 + 5 * u1.toNat)) := by rw [a1', a2', a3']
    rw [ew] at hp1
    by_cases w0 : u2 = 0
    · rw [show 29 + 5 * u1.toNat + u2.toNat = 29 + 5 * u1.toNat by omega] at hp2; omega
    by_cases w1 : u2 = 1
    · rw [show 29 + 5 * u1.toNat + u2.toNat = 30 + 5 * u1.toNat by omega] at hp2; omega
    by_cases w2 : u2 = 2
    · rw [show 29 + 5 * u1.toNat + u2.toNat = 31 + 5 * u1.toNat by omega] at hp2; omega
    by_cases w3 : u2 = 3
    · rw [show 29 + 5 * u1.toNat + u2.toNat = 32 + 5 * u1.toNat by omega] at hp2; omega
    by_cases w4 : u2 = 4
    · rw [show 29 + 5 * u1.toNat + u2.toNat = 33 + 5 * u1.toNat by omega] at hp2; omega
    omega
  · omega
set_option maxRecDepth 100000 in
theorem bx_4 {t t1 t2 : TS} {u1 u2 u3 z1 z2 : Int} (f1 : FrD [] t t1) (f2 : FrD [(81, 100), (82, 100)] t1 t2) (ox : OX t t1 1 69) (hp1 : (((¬ (0 ≤ u1 ∧ u1 ≤ tI t 1 10 - 1 ∧ 0 ≤ u2 ∧ u2 ≤ 11 ∧ 0 ≤ u3 ∧ u3 ≤ 1)) ∧ z1 = (-1000000001)) ∨ ((0 ≤ u1 ∧ u1 ≤ tI t 1 10 - 1 ∧ 0 ≤ u2 ∧ u2 ≤ 11 ∧ 0 ≤ u3 ∧ u3 ≤ 1) ∧ z1 = OC t 1 u1.toNat u2.toNat u3.toNat))) (hp2 : (((¬ (0 ≤ u1 ∧ u1 ≤ tA t1 69 1 - 1 ∧ 0 ≤ u2 ∧ u2 ≤ 11 ∧ 0 ≤ u3 ∧ u3 ≤ 1)) ∧ z2 = (-1000000001)) ∨ ((0 ≤ u1 ∧ u1 ≤ tA t1 69 1 - 1 ∧ 0 ≤ u2 ∧ u2 ≤ 11 ∧ 0 ≤ u3 ∧ u3 ≤ 1) ∧ z2 = OA t1 69 u1.toNat u2.toNat u3.toNat))) : z1 = z2 := by
  have hn := ox.n
  have h12 := ox.2.2.2.2.1
  by_cases q : 0 ≤ u1 ∧ u1 ≤ tI t 1 10 - 1 ∧ 0 ≤ u2 ∧ u2 ≤ 11 ∧ 0 ≤ u3 ∧ u3 ≤ 1
  · have o := oc_eq ox u1.toNat u2.toNat u3.toNat (by omega) (by omega) (by omega)
    omega
  · omega
set_option maxRecDepth 100000 in
theorem bx_6 {t t1 t2 : TS} {u1 u2 z1 z2 : Int} (f1 : FrD [(2, 100), (9, 100)] t t1) (f2 : FrD [(69, 100)] t1 t2) (ox : OX t t1 1 69) (hp1 : (((¬ (0 ≤ u1 ∧ u1 ≤ tI t 1 10 - 1 ∧ 0 ≤ u2 ∧ u2 ≤ 5)) ∧ z1 = (-1000000001) ∧ t1 = t) ∨ ((0 ≤ u1 ∧ u1 ≤ tI t 1 10 - 1 ∧ 0 ≤ u2 ∧ u2 ≤ 5) ∧ z1 = tA t 2 u1.toNat ∧ (∀ i, tA t1 2 i = if i = u1.toNat then u2 else tA t 2 i) ∧ (DK t1 1 (tI t 1 10))))) (hp2 : (((¬ (0 ≤ u1 ∧ u1 ≤ tA t1 69 1 - 1 ∧ 0 ≤ u2 ∧ u2 ≤ 5)) ∧ z2 = (-1000000001) ∧ t2 = t1) ∨ ((0 ≤ u1 ∧ u1 ≤ tA t1 69 1 - 1 ∧ 0 ≤ u2 ∧ u2 ≤ 5) ∧ z2 = tA t1 69 (29 + 5 * u1).toNat ∧ (t2 = uA t1 69 (29 + 5 * u1).toNat u2)))) : RPl t1 t2 1 69 := by
  have pl := ox.pl
  have hn := ox.n
  have h12 := ox.2.2.2.2.1
  obtain ⟨pl1, pl2, pl3⟩ := ox.pl
  rcases hp1 with h | h
  · rcases hp2 with k | k
    · exact pl.sm h.2.2 k.2.2
    · exfalso; have q1 := h.1; have q2 := k.1; omega
  · rcases hp2 with k | k
    · exfalso; have q1 := h.1; have q2 := k.1; omega
    · obtain ⟨hA, hz, hk, hdk⟩ := h
      obtain ⟨kA, kz, kt⟩ := k
      have e10 := f1.1 1 10 (by simp)
      have v : RPl t1 t1 1 69 := ⟨pl1.fr f1 (by simp) (by simp) (by simp), by rw [e10]; exact hdk, by rw [CPf f1 (by simp) (by simp), e10]; exact pl3⟩
      refine v.r (fun i hi _ => ?_) (by omega)
      rw [kt, tA_uA, if_neg (fun q => by have := q.2; unfold pP at hi; omega)]
set_option maxRecDepth 100000 in
theorem bx_7 {t t1 t2 : TS} {u1 u2 u3 z1 z2 : Int} (f1 : FrD [(5, 100), (6, 100), (7, 100)] t t1) (f2 : FrD [(69, 100)] t1 t2) (ox : OX t t1 1 69) (hd1 : (tD t1).map Dhd = (tD t).map Dhd) (hp1 : (((¬ (0 ≤ u1 ∧ u1 ≤ tI t 1 10 - 1 ∧ 0 ≤ u2 ∧ u2 ≤ 11 ∧ 0 ≤ u3 ∧ u3 ≤ 1)) ∧ z1 = (-1000000001) ∧ t1 = t) ∨ ((0 ≤ u1 ∧ u1 ≤ tI t 1 10 - 1 ∧ 0 ≤ u2 ∧ u2 ≤ 11 ∧ 0 ≤ u3 ∧ u3 ≤ 1) ∧ (¬ tA t 7 u2.toNat = -1) ∧ (¬ tA t 7 u2.toNat = u1) ∧ z1 = (-1000000002) ∧ t1 = t) ∨ ((0 ≤ u1 ∧ u1 ≤ tI t 1 10 - 1 ∧ 0 ≤ u2 ∧ u2 ≤ 11 ∧ 0 ≤ u3 ∧ u3 ≤ 1) ∧ (tA t 7 u2.toNat = -1 ∨ tA t 7 u2.toNat = u1) ∧ z1 = tA t 5 u1.toNat ∧ (CP t1 1 = (upF (tA t 5) u1.toNat u2, upF (tA t 6) u1.toNat u3)) ∧ (HCt t1 1)))) (hp2 : (((¬ (0 ≤ u1 ∧ u1 ≤ tA t1 69 1 - 1 ∧ 0 ≤ u2 ∧ u2 ≤ 11 ∧ 0 ≤ u3 ∧ u3 ≤ 1)) ∧ z2 = (-1000000001) ∧ (∀ i, tA t2 69 i = tA t1 69 i)) ∨ ((0 ≤ u1 ∧ u1 ≤ tA t1 69 1 - 1 ∧ 0 ≤ u2 ∧ u2 ≤ 11 ∧ 0 ≤ u3 ∧ u3 ≤ 1) ∧ (¬ RHp t1 u2 = -1) ∧ (¬ RHp t1 u2 = u1) ∧ z2 = (-1000000002) ∧ (∀ i, tA t2 69 i = tA t1 69 i)) ∨ ((0 ≤ u1 ∧ u1 ≤ tA t1 69 1 - 1 ∧ 0 ≤ u2 ∧ u2 ≤ 11 ∧ 0 ≤ u3 ∧ u3 ≤ 1) ∧ (RHp t1 u2 = -1 ∨ RHp t1 u2 = u1) ∧ z2 = tA t1 69 (32 + 5 * u1.toNat) ∧ (∀ i, tA t2 69 i = if i = 32 + 5 * u1.toNat then u2 else if i = 33 + 5 * u1.toNat then u3 else tA t1 69 i)))) : z1 = z2 ∧ RPl t1 t2 1 69 := by
  have pl := ox.pl
  have hn := ox.n
  have h12 := ox.2.2.2.2.1
  obtain ⟨pl1, pl2, pl3⟩ := ox.pl
  have hat : ∀ p : Int, 0 ≤ p → p < 12 → tA t 7 p.toNat = RHp t1 p := fun p h0 h1 => by rw [at_c ox.pl.1 ⟨h0, h1⟩, rh_at]; exact ox.at 0 p
  have e10 := f1.1 1 10 (by simp)
  by_cases hu : 0 ≤ u1 ∧ u1 ≤ tI t 1 10 - 1 ∧ 0 ≤ u2 ∧ u2 ≤ 11 ∧ 0 ≤ u3 ∧ u3 ≤ 1
  · have a2 := hat u2 (by omega) (by omega)
    have c2 := ox.cp (s := u1.toNat) (by omega)
    have c3 : tA t 5 u1.toNat = tA t1 69 (32 + 5 * u1.toNat) := c2.1
    rcases hp1 with h | h | h
    · exact absurd hu h.1
    · rcases hp2 with k | k | k
      · exfalso; have q1 := k.1; omega
      · exact ⟨by rw [h.2.2.2.1, k.2.2.2.1], by have v := pl.r (fun i _ _ => k.2.2.2.2 i) (by omega); rw [← h.2.2.2.2] at v; exact v⟩
      · exfalso; have q1 := k.2.1; have q2 := h.2.1; have q3 := h.2.2.1; omega
    · obtain ⟨hA, hc, hz, hcp, hhc⟩ := h
      rcases hp2 with k | k | k
      · exfalso; have q1 := k.1; omega
      · exfalso; have q1 := k.2.1; have q2 := k.2.2.1; omega
      · obtain ⟨kA, kc, kz, ko⟩ := k
        refine ⟨by omega, hhc, by rw [e10]; exact pl2.fr f1 hd1 (by simp) (by simp) (by simp) (by simp) (by simp) (by simp) (by simp), fun s hs => ?_⟩
        rw [e10] at hs
        obtain ⟨g1, g2⟩ := ox.cp (s := s) hs
        have g3 : tA t 5 s = tA t1 69 (32 + 5 * s) := g1
        have g4 : tA t 6 s = tA t1 69 (33 + 5 * s) := g2
        rw [hcp]
        show upF (tA t 5) u1.toNat u2 s = tA t2 69 (32 + 5 * s) ∧ upF (tA t 6) u1.toNat u3 s = tA t2 69 (33 + 5 * s)
        rw [ko, ko]
        unfold upF
        by_cases q : s = u1.toNat
        · rw [if_pos q, if_pos q, if_pos (by omega), if_neg (by omega), if_pos (by omega)]
          exact ⟨rfl, rfl⟩
        · rw [if_neg q, if_neg q, if_neg (by omega), if_neg (by omega), if_neg (by omega), if_neg (by omega)]
          exact ⟨g3, g4⟩
  · rcases hp1 with h | h | h
    · rcases hp2 with k | k | k
      · exact ⟨by rw [h.2.1, k.2.1], by have v := pl.r (fun i _ _ => k.2.2 i) (by omega); rw [← h.2.2] at v; exact v⟩
      · exfalso; have q1 := k.1; omega
      · exfalso; have q1 := k.1; omega
    · exact absurd h.1 hu
    · exact absurd h.1 hu
set_option maxRecDepth 100000 in
theorem bx_8 {t t1 t2 : TS} {u1 z1 z2 : Int} (f1 : FrD [(5, 100), (7, 100)] t t1) (f2 : FrD [(69, 100)] t1 t2) (ox : OX t t1 1 69) (hd1 : (tD t1).map Dhd = (tD t).map Dhd) (hp1 : (((¬ (0 ≤ u1 ∧ u1 ≤ tI t 1 10 - 1)) ∧ z1 = (-1000000001) ∧ t1 = t) ∨ ((0 ≤ u1 ∧ u1 ≤ tI t 1 10 - 1) ∧ z1 = tA t 5 u1.toNat ∧ (CP t1 1 = (upF (tA t 5) u1.toNat 12, tA t 6)) ∧ (HCt t1 1)))) (hp2 : (((¬ (0 ≤ u1 ∧ u1 ≤ tA t1 69 1 - 1)) ∧ z2 = (-1000000001) ∧ (∀ i, tA t2 69 i = tA t1 69 i)) ∨ ((0 ≤ u1 ∧ u1 ≤ tA t1 69 1 - 1) ∧ z2 = tA t1 69 (32 + 5 * u1.toNat) ∧ (∀ i, tA t2 69 i = if i = 32 + 5 * u1.toNat then 12 else tA t1 69 i)))) : z1 = z2 ∧ RPl t1 t2 1 69 := by
  have pl := ox.pl
  have hn := ox.n
  have h12 := ox.2.2.2.2.1
  obtain ⟨pl1, pl2, pl3⟩ := ox.pl
  have e10 := f1.1 1 10 (by simp)
  rcases hp1 with h | h
  · rcases hp2 with k | k
    · exact ⟨by rw [h.2.1, k.2.1], by have v := pl.r (fun i _ _ => k.2.2 i) (by omega); rw [← h.2.2] at v; exact v⟩
    · exfalso; have q1 := h.1; have q2 := k.1; omega
  · rcases hp2 with k | k
    · exfalso; have q1 := h.1; have q2 := k.1; omega
    · obtain ⟨hA, hz, hcp, hhc⟩ := h
      obtain ⟨kA, kz, ko⟩ := k
      have c2 := ox.cp (s := u1.toNat) (by omega)
      have c3 : tA t 5 u1.toNat = tA t1 69 (32 + 5 * u1.toNat) := c2.1
      refine ⟨by omega, hhc, by rw [e10]; exact pl2.fr f1 hd1 (by simp) (by simp) (by simp) (by simp) (by simp) (by simp) (by simp), fun s hs => ?_⟩
      rw [e10] at hs
      obtain ⟨g1, g2⟩ := ox.cp (s := s) hs
      have g3 : tA t 5 s = tA t1 69 (32 + 5 * s) := g1
      have g4 : tA t 6 s = tA t1 69 (33 + 5 * s) := g2
      rw [hcp]
      show upF (tA t 5) u1.toNat 12 s = tA t2 69 (32 + 5 * s) ∧ tA t 6 s = tA t2 69 (33 + 5 * s)
      rw [ko, ko]
      unfold upF
      by_cases q : s = u1.toNat
      · rw [if_pos q, if_pos (by omega), if_neg (by omega)]
        exact ⟨rfl, g4⟩
      · rw [if_neg q, if_neg (by omega), if_neg (by omega)]
        exact ⟨g3, g4⟩
set_option maxRecDepth 100000 in
theorem bx_11 {t t1 t2 : TS} {u1 z1 z2 : Int} (f1 : FrD [(1, 10), (1, 14), (2, 100), (3, 100), (4, 100), (5, 100), (6, 100), (9, 100)] t t1) (f2 : FrD [(69, 100)] t1 t2) (ox : OX t t1 1 69) (n0 : 0 ≤ tI t 1 10) (hp1 : (((¬ (1 ≤ u1 ∧ u1 ≤ 12)) ∧ z1 = (-1000000001) ∧ t1 = t) ∨ ((1 ≤ u1 ∧ u1 ≤ 12) ∧ z1 = min u1 (12 - tI t 1 10) ∧ (tI t1 1 10 = tI t 1 10 + min u1 (12 - tI t 1 10)) ∧ (tI t1 1 14 = dzF (min u1 (12 - tI t 1 10)).toNat (tI t 1 14)) ∧ (∀ m : Nat, tA t1 2 m = if tI t 1 10 ≤ (m : Int) ∧ (m : Int) < tI t 1 10 + min u1 (12 - tI t 1 10) then kdF (tI t 1 14) (m - (tI t 1 10).toNat) else tA t 2 m) ∧ (∀ m : Nat, tA t1 3 m = if tI t 1 10 ≤ (m : Int) ∧ (m : Int) < tI t 1 10 + min u1 (12 - tI t 1 10) then ldF (tI t 1 14) (m - (tI t 1 10).toNat) else tA t 3 m) ∧ (∀ m : Nat, tA t1 4 m = if tI t 1 10 ≤ (m : Int) ∧ (m : Int) < tI t 1 10 + min u1 (12 - tI t 1 10) then rdF (tI t 1 14) (m - (tI t 1 10).toNat) else tA t 4 m) ∧ (∀ m : Nat, tA t1 5 m = if tI t 1 10 ≤ (m : Int) ∧ (m : Int) < tI t 1 10 + min u1 (12 - tI t 1 10) then 12 else tA t 5 m) ∧ (∀ m : Nat, tA t1 6 m = if tI t 1 10 ≤ (m : Int) ∧ (m : Int) < tI t 1 10 + min u1 (12 - tI t 1 10) then 0 else tA t 6 m) ∧ (HCt t1 1) ∧ (DK t1 1 (tI t1 1 10))))) (hp2 : (((¬ (1 ≤ u1 ∧ u1 ≤ 12)) ∧ z2 = (-1000000001) ∧ t2 = t1) ∨ ((1 ≤ u1 ∧ u1 ≤ 12) ∧ z2 = min u1 (12 - tA t1 69 1) ∧ (tA t2 69 1 = tA t1 69 1 + min u1 (12 - tA t1 69 1)) ∧ (tA t2 69 0 = dzF (min u1 (12 - tA t1 69 1)).toNat (tA t1 69 0)) ∧ (∀ m : Nat, tA t2 69 (29 + 5 * m) = if tA t1 69 1 ≤ (m : Int) ∧ (m : Int) < tA t1 69 1 + min u1 (12 - tA t1 69 1) then kdF (tA t1 69 0) (m - (tA t1 69 1).toNat) else tA t1 69 (29 + 5 * m)) ∧ (∀ m : Nat, tA t2 69 (30 + 5 * m) = if tA t1 69 1 ≤ (m : Int) ∧ (m : Int) < tA t1 69 1 + min u1 (12 - tA t1 69 1) then ldF (tA t1 69 0) (m - (tA t1 69 1).toNat) else tA t1 69 (30 + 5 * m)) ∧ (∀ m : Nat, tA t2 69 (31 + 5 * m) = if tA t1 69 1 ≤ (m : Int) ∧ (m : Int) < tA t1 69 1 + min u1 (12 - tA t1 69 1) then rdF (tA t1 69 0) (m - (tA t1 69 1).toNat) else tA t1 69 (31 + 5 * m)) ∧ (∀ m : Nat, tA t2 69 (32 + 5 * m) = if tA t1 69 1 ≤ (m : Int) ∧ (m : Int) < tA t1 69 1 + min u1 (12 - tA t1 69 1) then 12 else tA t1 69 (32 + 5 * m)) ∧ (∀ m : Nat, tA t2 69 (33 + 5 * m) = if tA t1 69 1 ≤ (m : Int) ∧ (m : Int) < tA t1 69 1 + min u1 (12 - tA t1 69 1) then 0 else tA t1 69 (33 + 5 * m)) ∧ (∀ i, ¬ i = 0 → ¬ i = 1 → (i < 29 ∨ 89 ≤ i) → tA t2 69 i = tA t1 69 i)))) : RPl t1 t2 1 69 := by
  have pl := ox.pl
  have hn := ox.n
  obtain ⟨pl1, pl2, pl3⟩ := ox.pl
  rcases hp1 with h | h
  · rcases hp2 with k | k
    · exact pl.sm h.2.2 k.2.2
    · exact absurd k.1 h.1
  · rcases hp2 with k | k
    · exact absurd h.1 k.1
    · obtain ⟨hA, hz, hn1, hd, hk, hl, hr, h5, h6, hhc, hdk⟩ := h
      obtain ⟨kA, kz, kn, kd, kk, kl, kr, k32, k33, ko⟩ := k
      rw [← hn] at k32 k33
      refine ⟨hhc, hdk, ?_⟩
      refine ag_if (n := (tI t 1 10).toNat) (m := (tI t1 1 10).toNat) (A := tA t 5) (B := tA t 6) (C := fun s => tA t1 69 (32 + 5 * s)) (D := fun s => tA t1 69 (33 + 5 * s)) pl3 (fun s => ?_) (fun s => ?_) (fun s => ?_) (fun s => ?_)
      · show tA t1 5 s = _
        rw [h5, hn1]
        by_cases q : tI t 1 10 ≤ (s : Int) ∧ (s : Int) < tI t 1 10 + min u1 (12 - tI t 1 10)
        · rw [if_pos q, if_pos (by omega)]
        · rw [if_neg q, if_neg (by omega)]
      · show tA t1 6 s = _
        rw [h6, hn1]
        by_cases q : tI t 1 10 ≤ (s : Int) ∧ (s : Int) < tI t 1 10 + min u1 (12 - tI t 1 10)
        · rw [if_pos q, if_pos (by omega)]
        · rw [if_neg q, if_neg (by omega)]
      · show tA t2 69 (32 + 5 * s) = _
        rw [k32, hn1]
        by_cases q : tI t 1 10 ≤ (s : Int) ∧ (s : Int) < tI t 1 10 + min u1 (12 - tI t 1 10)
        · rw [if_pos q, if_pos (by omega)]
        · rw [if_neg q, if_neg (by omega)]
      · show tA t2 69 (33 + 5 * s) = _
        rw [k33, hn1]
        by_cases q : tI t 1 10 ≤ (s : Int) ∧ (s : Int) < tI t 1 10 + min u1 (12 - tI t 1 10)
        · rw [if_pos q, if_pos (by omega)]
        · rw [if_neg q, if_neg (by omega)]
set_option maxRecDepth 100000 in
theorem bx_13 {t t1 t2 : TS} {u1 z1 z2 : Int} (f1 : FrD [(1, 13), (1, 14), (5, 100), (6, 100), (7, 100)] t t1) (f2 : FrD [(69, 100), (81, 100), (82, 100)] t1 t2) (ox : OX t t1 1 69) (hd1 : (tD t1).map Dhd = (tD t).map Dhd) (aw : tI t1 68 4 = -1) (hp1 : (((¬ (1 ≤ u1 ∧ u1 ≤ 100)) ∧ z1 = (-1000000001) ∧ t1 = t) ∨ ((1 ≤ u1 ∧ u1 ≤ 100) ∧ z1 = cnX t 1 (min u1 (9999 - tI t 1 13)).toNat - cnX t 1 0 ∧ (tI t1 1 14 = zdsF (min u1 (9999 - tI t 1 13)).toNat (tI t 1 14) (tI t 1 12)) ∧ (tI t1 1 13 = tI t 1 13 + min u1 (9999 - tI t 1 13)) ∧ (GLp t t1 1 (dysF (tI t 1 10).toNat (OC t 1) (tI t 1 12) (tI t 1 14) (min u1 (9999 - tI t 1 13)).toNat (CP t 1)))))) (hp2 : (Dq t1 t2) ∧ (((¬ (1 ≤ u1 ∧ u1 ≤ 100)) ∧ z2 = (-1000000001) ∧ (∀ i, tA t2 69 i = tA t1 69 i)) ∨ ((1 ≤ u1 ∧ u1 ≤ 100) ∧ z2 = caA t1 69 (min u1 (9999 - tA t1 69 2)).toNat - caA t1 69 0 ∧ (tA t2 69 0 = zdsF (min u1 (9999 - tA t1 69 2)).toNat (tA t1 69 0) (tA t1 69 3)) ∧ (tA t2 69 2 = tA t1 69 2 + min u1 (9999 - tA t1 69 2)) ∧ (GRp t1 t2 (dysF (tA t1 69 1).toNat (OA t1 69) (tA t1 69 3) (tA t1 69 0) (min u1 (9999 - tA t1 69 2)).toNat (RPt t1)))))) : z1 = z2 ∧ RPl t1 t2 1 69 := by
  have pl := ox.pl
  have hn := ox.n
  have h12 := ox.2.2.2.2.1
  obtain ⟨g1, g2, g3, g4⟩ := ox.2.2.1.1
  obtain ⟨pl1, pl2, pl3⟩ := ox.pl
  rcases hp1 with h | h
  · rcases hp2.2 with k | k
    · exact ⟨by rw [h.2.1, k.2.1], by have v := pl.r (fun i _ _ => k.2.2 i) (by omega); rw [← h.2.2] at v; exact v⟩
    · exact absurd k.1 h.1
  · rcases hp2.2 with k | k
    · exact absurd h.1 k.1
    · obtain ⟨hA, hz, h14, h13, gl1, gl2, gl3, gl4⟩ := h
      obtain ⟨kA, kz, k0, k2, gr1, gr2, gr3, gr4, gr5⟩ := k
      rw [← g3] at kz gr1
      have ec := ox.cn (min u1 (9999 - tI t 1 13)).toNat
      have ec0 := ox.cn 0
      refine ⟨by omega, gl2, by rw [gl4]; exact pl2.fr f1 hd1 (by simp) (by simp) (by simp) (by simp) (by simp) (by simp) (by simp), ?_⟩
      have ea := ox.ag (min u1 (9999 - tI t 1 13)).toNat
      rw [RPt_no (gr5.trans aw), RPt_no aw] at gr1
      rw [gl1, gl4, gr1]
      exact ea
set_option maxRecDepth 100000 in
theorem bx_14 {t t1 t2 : TS} {u1 z1 z2 : Int} (f1 : FrD [] t t1) (f2 : FrD [(81, 100), (82, 100)] t1 t2) (ox : OX t t1 1 69) (hp1 : (((u1 = 0) ∧ z1 = pcX t 1 0) ∨ ((u1 = 1) ∧ z1 = mtX t 1 0) ∨ ((u1 = 2) ∧ z1 = cnX t 1 0) ∨ ((u1 = 3) ∧ z1 = phG (tI t 1 10).toNat (CP t 1)) ∨ ((¬ (0 ≤ u1 ∧ u1 ≤ 3)) ∧ z1 = (-1000000001)))) (hp2 : (((u1 = 0) ∧ z2 = pcA t1 69 0) ∨ ((u1 = 1) ∧ z2 = mtA t1 69 0) ∨ ((u1 = 2) ∧ z2 = caA t1 69 0) ∨ ((u1 = 3) ∧ z2 = phG (tA t1 69 1).toNat (RPc t1 69)) ∨ ((¬ (0 ≤ u1 ∧ u1 ≤ 3)) ∧ z2 = (-1000000001)))) : z1 = z2 := by
  have hn := ox.n
  have h12 := ox.2.2.2.2.1
  have e1 := ox.pc 0
  have e2 := ox.mt 0
  have e3 := ox.cn 0
  have e4 := ox.ph
  omega
set_option maxRecDepth 100000 in
theorem bx_15 {t t1 t2 : TS} {u1 z1 z2 : Int} (f1 : FrD [] t t1) (f2 : FrD [] t1 t2) (ox : OX t t1 1 69) (hp1 : (((¬ (0 ≤ u1 ∧ u1 ≤ 11)) ∧ z1 = (-1000000001)) ∨ ((0 ≤ u1 ∧ u1 ≤ 11) ∧ (atX t 1 0 u1 = -1) ∧ z1 = (-1000000005)) ∨ ((0 ≤ u1 ∧ u1 ≤ 11) ∧ (¬ atX t 1 0 u1 = -1) ∧ z1 = atX t 1 0 u1))) (hp2 : (((¬ (0 ≤ u1 ∧ u1 ≤ 11)) ∧ z2 = (-1000000001)) ∨ ((0 ≤ u1 ∧ u1 ≤ 11) ∧ (atA t1 69 0 u1 = -1) ∧ z2 = (-1000000005)) ∨ ((0 ≤ u1 ∧ u1 ≤ 11) ∧ (¬ atA t1 69 0 u1 = -1) ∧ z2 = atA t1 69 0 u1))) : z1 = z2 := by
  have hn := ox.n
  have h12 := ox.2.2.2.2.1
  have e1 := ox.at 0 u1
  omega
set_option maxRecDepth 100000 in
theorem bx_17 {t t1 t2 : TS} {u1 u2 z1 z2 : Int} (f1 : FrD [] t t1) (f2 : FrD [(81, 100), (82, 100)] t1 t2) (ox : OX t t1 1 69) (hp1 : (((¬ (0 ≤ u1 ∧ u1 ≤ 11 ∧ 0 ≤ u2 ∧ u2 ≤ 1)) ∧ z1 = (-1000000001)) ∨ ((0 ≤ u1 ∧ u1 ≤ 11 ∧ 0 ≤ u2 ∧ u2 ≤ 1) ∧ z1 = bfA (bfF (fun s => min (OC t 1 s u1.toNat 0) (OC t 1 s u1.toNat 1)) (tI t 1 10).toNat) u2))) (hp2 : (((¬ (0 ≤ u1 ∧ u1 ≤ 11 ∧ 0 ≤ u2 ∧ u2 ≤ 1)) ∧ z2 = (-1000000001)) ∨ ((0 ≤ u1 ∧ u1 ≤ 11 ∧ 0 ≤ u2 ∧ u2 ≤ 1) ∧ z2 = bfA (bfF (fun s => min (OA t1 69 s u1.toNat 0) (OA t1 69 s u1.toNat 1)) (tA t1 69 1).toNat) u2))) : z1 = z2 := by
  have hn := ox.n
  have h12 := ox.2.2.2.2.1
  by_cases q : 0 ≤ u1 ∧ u1 ≤ 11 ∧ 0 ≤ u2 ∧ u2 ≤ 1
  · rw [ox.bf (p := u1.toNat) (by omega)] at hp1
    omega
  · omega
set_option maxRecDepth 100000 in
theorem bx_18 {t t1 t2 : TS} {z1 z2 : Int} (f1 : FrD [] t t1) (f2 : FrD [(69, 100), (81, 100), (82, 100)] t1 t2) (ox : OX t t1 1 69) (hp1 : (z1 = if (swO (gnF (OC t 1) (tA t 5) (tA t 6)) (tI t 1 10).toNat (tI t 1 10).toNat).2 = -1 then -1000000005 else (swO (gnF (OC t 1) (tA t 5) (tA t 6)) (tI t 1 10).toNat (tI t 1 10).toNat).2)) (hp2 : (∀ i, tA t2 69 i = tA t1 69 i) ∧ (z2 = if (swO (gsA t1) (tA t1 69 1).toNat (tA t1 69 1).toNat).2 = -1 then -1000000005 else (swO (gsA t1) (tA t1 69 1).toNat (tA t1 69 1).toNat).2)) : z1 = z2 := by
  have e := sw_eq ox
  rw [show gnF (OC t 1) (tA t 5) (tA t 6) = gnF (OC t 1) (tA t (1 + 4)) (tA t (1 + 5)) from rfl, e] at hp1
  exact hp1.trans hp2.2.symm
set_option maxRecDepth 100000 in
theorem bx_19 {t t1 t2 : TS} {u1 z1 z2 : Int} (f1 : FrD [] t t1) (f2 : FrD [] t1 t2) (ox : OX t t1 1 69) (hp1 : (((¬ (0 ≤ u1 ∧ u1 ≤ 11)) ∧ z1 = (-1000000001)) ∨ ((0 ≤ u1 ∧ u1 ≤ 11) ∧ z1 = flF (hvT t 1) (HF (CP t 1).1 (tI t 1 10).toNat) u1.toNat))) (hp2 : (((¬ (0 ≤ u1 ∧ u1 ≤ 11)) ∧ z2 = (-1000000001)) ∨ ((0 ≤ u1 ∧ u1 ≤ 11) ∧ z2 = flF (hvA t1 69) (HF (RPc t1 69).1 (tA t1 69 1).toNat) u1.toNat))) : z1 = z2 := by
  have hn := ox.n
  have h12 := ox.2.2.2.2.1
  by_cases q : 0 ≤ u1 ∧ u1 ≤ 11
  · have e := ox.fl (p := u1.toNat) (by omega)
    omega
  · omega
set_option maxRecDepth 100000 in
theorem bx_20 {t t1 t2 : TS} {u1 z1 z2 : Int} (f1 : FrD [] t t1) (f2 : FrD [] t1 t2) (ox : OX t t1 1 69) (hp1 : (((¬ (0 ≤ u1 ∧ u1 ≤ 1)) ∧ z1 = (-1000000001)) ∨ ((u1 = 0) ∧ z1 = (psF (fun p => flF (hvT t 1) (HF (CP t 1).1 (tI t 1 10).toNat) p) 11).1) ∨ ((u1 = 1) ∧ z1 = (psF (fun p => flF (hvT t 1) (HF (CP t 1).1 (tI t 1 10).toNat) p) 11).2))) (hp2 : (((¬ (0 ≤ u1 ∧ u1 ≤ 1)) ∧ z2 = (-1000000001)) ∨ ((u1 = 0) ∧ z2 = (psF (fun p => flF (hvA t1 69) (HF (RPc t1 69).1 (tA t1 69 1).toNat) p) 11).1) ∨ ((u1 = 1) ∧ z2 = (psF (fun p => flF (hvA t1 69) (HF (RPc t1 69).1 (tA t1 69 1).toNat) p) 11).2))) : z1 = z2 := by
  have hn := ox.n
  have h12 := ox.2.2.2.2.1
  have e : psF (fun p => flF (hvT t 1) (HF (CP t 1).1 (tI t 1 10).toNat) p) 11 = psF (fun p => flF (hvA t1 69) (HF (RPc t1 69).1 (tA t1 69 1).toNat) p) 11 := psF_cg (fun s hs => ox.fl (by omega))
  rw [e] at hp1
  omega
set_option maxRecDepth 100000 in
theorem bx_21 {t t1 t2 : TS} {u1 u2 z1 z2 : Int} (f1 : FrD [(24, 10), (24, 11), (24, 12), (24, 13), (24, 14), (25, 100), (26, 100), (27, 100), (28, 100), (29, 100), (30, 100), (31, 100), (32, 100), (34, 100), (33, 101)] t t1) (f2 : FrD [(69, 100), (74, 100), (68, 4), (81, 100), (82, 100)] t1 t2) (ox : OX t t1 1 69) (hp1 : (((¬ (0 ≤ u1 ∧ u1 ≤ 100 ∧ 0 ≤ u2 ∧ u2 ≤ 14)) ∧ z1 = (-1000000001)) ∨ ((0 ≤ u1 ∧ u1 ≤ 100) ∧ (u2 = 0) ∧ z1 = pcX t 1 u1.toNat) ∨ ((0 ≤ u1 ∧ u1 ≤ 100) ∧ (u2 = 1) ∧ z1 = mtX t 1 u1.toNat) ∨ ((0 ≤ u1 ∧ u1 ≤ 100) ∧ (u2 = 2) ∧ z1 = cnX t 1 u1.toNat) ∨ ((0 ≤ u1 ∧ u1 ≤ 100) ∧ (3 ≤ u2 ∧ u2 ≤ 14) ∧ (atX t 1 u1.toNat (u2 - 3) = -1) ∧ z1 = (-1000000005)) ∨ ((0 ≤ u1 ∧ u1 ≤ 100) ∧ (3 ≤ u2 ∧ u2 ≤ 14) ∧ (¬ atX t 1 u1.toNat (u2 - 3) = -1) ∧ z1 = atX t 1 u1.toNat (u2 - 3)))) (hp2 : (∀ i, tA t2 69 i = tA t1 69 i) ∧ (tI t2 68 4 = -1) ∧ (((¬ (0 ≤ u1 ∧ u1 ≤ 100 ∧ 0 ≤ u2 ∧ u2 ≤ 14)) ∧ z2 = (-1000000001)) ∨ ((0 ≤ u1 ∧ u1 ≤ 100) ∧ (u2 = 0) ∧ z2 = pcA t1 69 u1.toNat) ∨ ((0 ≤ u1 ∧ u1 ≤ 100) ∧ (u2 = 1) ∧ z2 = mtA t1 69 u1.toNat) ∨ ((0 ≤ u1 ∧ u1 ≤ 100) ∧ (u2 = 2) ∧ z2 = caA t1 69 u1.toNat) ∨ ((0 ≤ u1 ∧ u1 ≤ 100) ∧ (3 ≤ u2 ∧ u2 ≤ 14) ∧ (atA t1 69 u1.toNat (u2 - 3) = -1) ∧ z2 = (-1000000005)) ∨ ((0 ≤ u1 ∧ u1 ≤ 100) ∧ (3 ≤ u2 ∧ u2 ≤ 14) ∧ (¬ atA t1 69 u1.toNat (u2 - 3) = -1) ∧ z2 = atA t1 69 u1.toNat (u2 - 3)))) : z1 = z2 := by
  have hn := ox.n
  have h12 := ox.2.2.2.2.1
  have hp3 := hp2.2.2
  have e1 := ox.pc u1.toNat
  have e2 := ox.mt u1.toNat
  have e3 := ox.cn u1.toNat
  have e4 := ox.at u1.toNat (u2 - 3)
  omega
set_option maxRecDepth 100000 in
theorem bx_22 {t t1 t2 : TS} {z1 z2 : Int} (f1 : FrD [(24, 10), (24, 11), (24, 12), (24, 13), (24, 14), (25, 100), (26, 100), (27, 100), (28, 100), (29, 100), (30, 100), (31, 100), (32, 100), (34, 100), (33, 101)] t t1) (f2 : FrD [(69, 100), (74, 100), (68, 4), (81, 100), (82, 100)] t1 t2) (ox : OX t t1 1 69) (hp1 : (FsP (fun m => (cnX t 1 m = 12 ∨ cnX t 1 m = tI t 1 10)) 201 z1)) (hp2 : (∀ i, tA t2 69 i = tA t1 69 i) ∧ (tI t2 68 4 = -1) ∧ (FsP (fun m => (caA t1 69 m = 12 ∨ caA t1 69 m = tA t1 69 1)) 201 z2)) : z1 = z2 := by
  have hn := ox.n
  have h12 := ox.2.2.2.2.1
  have hp3 := hp2.2.2
  exact hp1.un hp3 (fun i _ _ => by rw [ox.cn, hn])
set_option maxRecDepth 100000 in
theorem bx_23 {t t1 t2 : TS} {u1 u2 z1 z2 : Int} (f1 : FrD [(24, 10), (24, 11), (24, 12), (24, 13), (24, 14), (25, 100), (26, 100), (27, 100), (28, 100), (29, 100), (30, 100), (31, 100), (32, 100), (34, 100), (33, 101)] t t1) (f2 : FrD [(69, 100), (74, 100), (68, 4), (81, 100), (82, 100)] t1 t2) (ox : OX t t1 1 69) (hp1 : (((¬ (0 ≤ u1 ∧ u1 ≤ 60 ∧ 0 ≤ u2 ∧ u2 ≤ 1)) ∧ z1 = (-1000000001)) ∨ ((0 ≤ u1 ∧ u1 ≤ 60 ∧ 0 ≤ u2 ∧ u2 ≤ 1) ∧ z1 = bfA (bfF (fun s => picG (tI t 1 10).toNat (OC t 1) (dysF (tI t 1 10).toNat (OC t 1) (tI t 1 12) (tI t 1 14) u1.toNat (upF (tA t 5) s 13, tA t 6))) (tI t 1 10).toNat) u2))) (hp2 : (∀ i, tA t2 69 i = tA t1 69 i) ∧ (tI t2 68 4 = -1) ∧ (((¬ (0 ≤ u1 ∧ u1 ≤ 60 ∧ 0 ≤ u2 ∧ u2 ≤ 1)) ∧ z2 = (-1000000001)) ∨ ((0 ≤ u1 ∧ u1 ≤ 60 ∧ 0 ≤ u2 ∧ u2 ≤ 1) ∧ z2 = bfA (bfF (fun s => picG (tA t1 69 1).toNat (OA t1 69) (dysF (tA t1 69 1).toNat (OA t1 69) (tA t1 69 3) (tA t1 69 0) u1.toNat (upF (RPc t1 69).1 s 13, (RPc t1 69).2))) (tA t1 69 1).toNat) u2))) : z1 = z2 := by
  have hn := ox.n
  have h12 := ox.2.2.2.2.1
  have hp3 := hp2.2.2
  have e := ox.lo u1.toNat
  rw [show tA t (1 + 4) = tA t 5 from rfl, show tA t (1 + 5) = tA t 6 from rfl] at e
  rw [e] at hp1
  omega
set_option maxRecDepth 100000 in
theorem bx_25 {t t1 t2 : TS} {z1 z2 : Int} (f1 : FrD [] t t1) (f2 : FrD [(81, 100), (82, 100)] t1 t2) (ox : OX t t1 1 69) (hp1 : (z1 = exF t (lwF t 1 1) (pcX t 1 0) (pcX t 1 0) (mtX t 1 0) 0)) (hp2 : (∃ f2, z2 = exR t1 69 1 (pcA t1 69 0) (pcA t1 69 0) (mtA t1 69 0) f2)) : z1 = z2 := by
  obtain ⟨f2, k⟩ := hp2
  rw [hp1, k, ← ox.pc 0, ← ox.mt 0]
  exact ex_eq ox.1 ox.2.1 (q := 1) (by decide) (Or.inr rfl)
set_option maxRecDepth 100000 in
theorem bx_26 {t t1 t2 : TS} {u1 z1 z2 : Int} (f1 : FrD [] t t1) (f2 : FrD [(81, 100), (82, 100)] t1 t2) (ox : OX t t1 1 69) (hp1 : (((¬ (0 ≤ u1 ∧ u1 ≤ tI t 1 10 - 1)) ∧ z1 = (-1000000001)) ∨ ((0 ≤ u1 ∧ u1 ≤ tI t 1 10 - 1) ∧ z1 = exF t (lwF t 1 2) (tA t 3 u1.toNat) (tA t 3 u1.toNat) (tA t 4 u1.toNat) (tA t 6 u1.toNat)))) (hp2 : (((¬ (0 ≤ u1 ∧ u1 ≤ tA t1 69 1 - 1)) ∧ z2 = (-1000000001)) ∨ ((0 ≤ u1 ∧ u1 ≤ tA t1 69 1 - 1) ∧ z2 = exR t1 69 2 (tA t1 69 (30 + 5 * u1.toNat)) (tA t1 69 (30 + 5 * u1.toNat)) (tA t1 69 (31 + 5 * u1.toNat)) (tA t1 69 (33 + 5 * u1.toNat))))) : z1 = z2 := by
  have hn := ox.n
  have h12 := ox.2.2.2.2.1
  by_cases q : 0 ≤ u1 ∧ u1 ≤ tI t 1 10 - 1
  · obtain ⟨a1, a2, a3⟩ := ox.2.2.1.2.2 u1.toNat (by omega)
    obtain ⟨b1, b2⟩ := ox.cp (s := u1.toNat) (by omega)
    have a2' : tA t 3 u1.toNat = tA t1 69 (30 + 5 * u1.toNat) := a2
    have a3' : tA t 4 u1.toNat = tA t1 69 (31 + 5 * u1.toNat) := a3
    have b2' : tA t 6 u1.toNat = tA t1 69 (33 + 5 * u1.toNat) := b2
    rcases hp1 with h | h
    · omega
    · rcases hp2 with k | k
      · omega
      · rw [h.2, k.2, a2', a3', b2']
        exact ex_eq ox.1 ox.2.1 (q := 2) (by decide) (Or.inl rfl)
  · omega
set_option maxRecDepth 100000 in
theorem bx_29 {t t1 t2 : TS} {z1 z2 : Int} (f1 : FrD [(39, 0), (39, 4), (39, 5), (39, 7), (39, 8), (39, 9), (39, 10), (40, 100), (41, 100), (39, 6), (37, 1), (1, 11), (10, 101), (11, 100), (9, 100)] t t1) (f2 : FrD [(68, 10), (68, 11), (68, 12), (68, 13), (68, 14), (68, 9), (68, 15), (68, 19), (68, 20), (68, 22), (69, 100), (78, 100), (79, 100), (80, 100)] t1 t2) (ox : OX t t1 1 69) (ok : OK t) (ok1 : OK t1) (b38 : tA t1 75 = tA t 38) (n9 : tI t1 68 9 = tI t 37 1) (nz : NZ t1 69) (rt : RT t t 1 69) (hp1 : (tI t1 37 1 = 0) ∧ (-2147483648 ≤ z1) ∧ (z1 ≤ 2147483647) ∧ (XCp t z1 t1)) (hp2 : (-2147483648 ≤ z2) ∧ (z2 ≤ 2147483647) ∧ (tI t2 68 9 = 0) ∧ (WF t2 69) ∧ (∀ i, ¬ i = 4 → i < 89 → tA t2 69 i = tA t1 69 i) ∧ (XTp t1 z2 t2)) : z1 = z2 ∧ RPl t1 t2 1 69 ∧ RT t1 t2 1 69 ∧ GD t1 ∧ HdE t t1 ∧ NZ t2 69 := by
  have hn := ox.n
  have h12 := ox.2.2.2.2.1
  obtain ⟨pl1, pl2, pl3⟩ := ox.pl
  obtain ⟨r1, r2, r3, r4⟩ := ox.2.1
  have e10 := f1.1 1 10 (by simp)
  have e69 : ∀ i, ¬ i = 4 → i < 89 → tA t2 69 i = tA t1 69 i := hp2.2.2.2.2.1
  have hc : HCt t1 1 := pl1.fr f1 (by simp) (by simp) (by simp)
  have ha : Agr (tI t1 1 10).toNat (CP t1 1) (RPc t2 69) := by
    rw [CPf f1 (by simp) (by simp), e10]
    intro s hs
    obtain ⟨k1, k2⟩ := pl3 s hs
    refine ⟨?_, ?_⟩
    · show _ = tA t2 69 (32 + 5 * s)
      rw [e69 _ (by omega) (by omega)]
      exact k1
    · show _ = tA t2 69 (33 + 5 * s)
      rw [e69 _ (by omega) (by omega)]
      exact k2
  obtain ⟨hz, gd1, he, h⟩ := tx_two ok ox.1 hp1.2.2.2 hp2.2.2.2.2.2 b38 n9 r1 (by omega)
  rcases h with ⟨s1, s2⟩ | ⟨x, hx, hd, g14, at', ad⟩
  · obtain ⟨a1, a2, a3, a4⟩ := s1
    have rt1 : RT t1 t2 1 69 := ox.2.1.mv a1 (fun i _ => a2 i) (fun q _ => a3 q) he (fun i _ _ => s2 i)
    refine ⟨hz, ⟨hc, ?_, ha⟩, rt1, gd1, he, nz.mv r2.2 (fun i _ _ => s2 i)⟩
    rw [e10]
    intro s r v hs hr hv
    have e9 : tA t1 (1 + 8) ((s * 4 + r) * 2 + v) = tA t (1 + 8) ((s * 4 + r) * 2 + v) := a4 _
    rw [e9, pl2 s r v hs hr hv]
    exact (dkC_cp ok (by omega) a1 (fun i _ => a2 i) (fun q _ => a3 q) he (f1.2.1 2 (by simp) s) (f1.2.1 3 (by simp) s) (f1.2.1 4 (by simp) s) r v).symm
  · have x0 : 0 ≤ x.1 := by
      obtain ⟨_, _, _, _, k2, _⟩ := hx
      exact k2
    have gv := hx.gv
    have hl : (tD t1).length = (tD t).length + 1 := by
      have := congrArg List.length hd
      simpa using this
    have hok := (tx_ok ok1 (j := (tD t).length) (by omega)).2.2.1
    rw [(Dhd_1 (tx_new hd)).2.2.1] at hok
    exact ⟨hz, ⟨hc, DK_add ok pl2 rt x0 he at' (f1.2.1 2 (by simp)) (f1.2.1 3 (by simp)) (f1.2.1 4 (by simp)) e10, ha⟩, RT_add ok1 ox.2.1 x0 hd g14 at' ad, gd1, he, Rnz nz ad r2.1 ⟨gv.2.1, hok⟩ x0⟩
set_option maxRecDepth 100000 in
theorem bx_30 {t t1 t2 : TS} {u1 u2 z1 z2 : Int} (f1 : FrD [] t t1) (f2 : FrD [] t1 t2) (ox : OX t t1 1 69) (hp1 : ((z1 = (-1000000001) ∧ ((if 0 ≤ u1 ∧ u1 ≤ tI t 1 11 - 1 then tT t 10 u1.toNat else none) = none ∨ ¬ (0 ≤ u2 ∧ u2 ≤ 1))) ∨ (0 ≤ u2 ∧ u2 ≤ 1 ∧ ∃ j, j < (tD t).length ∧ (if 0 ≤ u1 ∧ u1 ≤ tI t 1 11 - 1 then tT t 10 u1.toNat else none) = some (92 + 4 * j) ∧ ((u2 = 0 ∧ z1 = (tx t j).1) ∨ (u2 = 1 ∧ z1 = (tx t j).2.1))))) (hp2 : (((¬ (0 ≤ u1 ∧ u1 ≤ tA t1 69 4 - 1 ∧ 0 ≤ u2 ∧ u2 ≤ 1)) ∧ z2 = (-1000000001)) ∨ ((0 ≤ u1 ∧ u1 ≤ tA t1 69 4 - 1 ∧ 0 ≤ u2 ∧ u2 ≤ 1) ∧ (u2 = 0) ∧ z2 = tA t1 69 (89 + 2 * u1.toNat) / 1000) ∨ ((0 ≤ u1 ∧ u1 ≤ tA t1 69 4 - 1 ∧ 0 ≤ u2 ∧ u2 ≤ 1) ∧ (u2 = 1) ∧ z2 = tA t1 69 (90 + 2 * u1.toNat)))) : z1 = z2 := by
  obtain ⟨r1, r2, r3, r4⟩ := ox.2.1
  by_cases q : 0 ≤ u1 ∧ u1 ≤ tA t1 69 4 - 1 ∧ 0 ≤ u2 ∧ u2 ≤ 1
  · obtain ⟨j, hj, ht, h96, x1, x2, x3⟩ := r3 u1.toNat (by omega)
    have ht2 : tT t 10 u1.toNat = some (92 + 4 * j) := ht
    rw [if_pos (by omega), ht2] at hp1
    rcases hp1 with h | ⟨h0, h1, j', hj', e, h⟩
    · rcases h.2 with w | w
      · cases w
      · omega
    · have ej : j' = j := by
        have := Option.some.inj e
        omega
      subst ej
      omega
  · rcases hp1 with h | ⟨h0, h1, j', hj', e, h⟩
    · omega
    · exfalso
      by_cases w : 0 ≤ u1 ∧ u1 ≤ tI t 1 11 - 1
      · omega
      · rw [if_neg w] at e
        cases e
set_option maxRecDepth 100000 in
theorem bx_31 {t t1 t2 : TS} {u1 z1 z2 : Int} (f1 : FrD [] t t1) (f2 : FrD [] t1 t2) (ox : OX t t1 1 69) (hp1 : (((¬ (0 ≤ u1 ∧ u1 ≤ 2)) ∧ z1 = (-1000000001)) ∨ ((0 ≤ u1 ∧ u1 ≤ 2) ∧ (tA t 11 u1.toNat = -1) ∧ z1 = (-1000000005)) ∨ ((0 ≤ u1 ∧ u1 ≤ 2) ∧ (¬ tA t 11 u1.toNat = -1) ∧ z1 = tA t 11 u1.toNat))) (hp2 : (((¬ (0 ≤ u1 ∧ u1 ≤ 2)) ∧ z2 = (-1000000001)) ∨ ((0 ≤ u1 ∧ u1 ≤ 2) ∧ (cuA t1 69 u1 = -1) ∧ z2 = (-1000000005)) ∨ ((0 ≤ u1 ∧ u1 ≤ 2) ∧ (¬ cuA t1 69 u1 = -1) ∧ z2 = cuA t1 69 u1))) : z1 = z2 := by
  obtain ⟨r1, r2, r3, r4⟩ := ox.2.1
  by_cases q : 0 ≤ u1 ∧ u1 ≤ 2
  · have e := r4 u1.toNat (by omega)
    have e2 : tA t 11 u1.toNat = cuA t1 69 ((u1.toNat : Nat) : Int) := e
    rw [Int.toNat_of_nonneg q.1] at e2
    omega
  · omega
set_option maxRecDepth 100000 in
theorem bx_35 {t t1 t2 : TS} {u1 z1 z2 : Int} (f1 : FrD [] t t1) (f2 : FrD [] t1 t2) (ox : OX t t1 1 69) (rs : RS t t1) (ok1 : OK t1) (hp1 : (((¬ (0 ≤ u1 ∧ u1 ≤ 3)) ∧ z1 = (-1000000001)) ∨ ((0 ≤ u1 ∧ u1 ≤ 3) ∧ (tI t (45 + 2 * u1.toNat) 1 = -1) ∧ z1 = (-1000000011)) ∨ ((0 ≤ u1 ∧ u1 ≤ 3) ∧ (¬ tI t (45 + 2 * u1.toNat) 1 = -1) ∧ (FsP (fun i => ¬ tA t ((45 + 2 * u1.toNat) + 1) i = -1000000005 ∧ (12 ≤ (i : Int) ∨ ¬ tA t ((45 + 2 * u1.toNat) + 1) i = tA t 7 i)) (tI t (45 + 2 * u1.toNat) 2) z1)))) (hp2 : (((¬ (0 ≤ u1 ∧ u1 ≤ 3)) ∧ z2 = (-1000000001)) ∨ ((0 ≤ u1 ∧ u1 ≤ 3) ∧ (tA t1 83 u1.toNat = -1) ∧ z2 = (-1000000011)) ∨ ((0 ≤ u1 ∧ u1 ≤ 3) ∧ (¬ tA t1 83 u1.toNat = -1) ∧ (FsP (fun i => ¬ tA t1 85 (24 * u1.toNat + i) = -1000000005 ∧ (12 ≤ (i : Int) ∨ ¬ tA t1 85 (24 * u1.toNat + i) = atA t1 69 0 (i : Int))) (tA t1 84 u1.toNat) z2)))) : z1 = z2 := by
  have hn := ox.n
  have h12 := ox.2.2.2.2.1
  by_cases q : 0 ≤ u1 ∧ u1 ≤ 3
  · obtain ⟨s1, s2, s3⟩ := rs u1.toNat (by omega)
    rcases hp1 with h | h | h
    · omega
    · rcases hp2 with k | k | k
      · omega
      · omega
      · exfalso; have q1 := h.2.1; have q2 := k.2.1; omega
    · rcases hp2 with k | k | k
      · omega
      · exfalso; have q1 := h.2.1; have q2 := k.2.1; omega
      · have h4 := h.2.2
        rw [s2] at h4
        have b84 := ok1.a (ae_84 u1.toNat)
        refine h4.un k.2.2 (fun i i0 i1 => ?_)
        have e := s3 i.toNat (by omega)
        rw [e]
        by_cases w : i < 12
        · have a := ox.at 0 ((i.toNat : Nat) : Int)
          have a2 := at_c ox.pl.1 (p := ((i.toNat : Nat) : Int)) (by omega)
          rw [show (((i.toNat : Nat) : Int)).toNat = i.toNat by omega] at a2
          rw [a2, a]
        · constructor
          · exact fun x => ⟨x.1, Or.inl (by omega)⟩
          · exact fun x => ⟨x.1, Or.inl (by omega)⟩
  · omega
set_option maxRecDepth 100000 in
theorem bx_42 {t t1 t2 : TS} {u1 z1 z2 : Int} (f1 : FrD [(0, 8), (24, 10), (24, 11), (24, 12), (24, 13), (24, 14), (25, 100), (26, 100), (27, 100), (28, 100), (29, 100), (30, 100), (31, 100), (32, 100), (34, 100), (33, 101)] t t1) (f2 : FrD [(68, 35), (69, 100), (71, 100), (81, 100), (82, 100)] t1 t2) (rm : RM t t1) (ox : ¬ tI t 0 9 = 0 → OX t t1 12 70) (hp1 : (tI t1 0 8 = 0) ∧ (((¬ (1 ≤ u1 ∧ u1 ≤ 30)) ∧ z1 = (-1000000001)) ∨ ((1 ≤ u1 ∧ u1 ≤ 30) ∧ (tI t 0 9 = 0) ∧ z1 = (-1000000002)) ∨ ((1 ≤ u1 ∧ u1 ≤ 30) ∧ (¬ tI t 0 9 = 0) ∧ (CkP (pcX t 12) (mtX t 12) (tA t 44) (tI t 0 8) (2 * (min u1 (9999 - tI t 12 13))) z1)))) (hp2 : (tI t2 68 35 = 0) ∧ (∀ i : Nat, i < 1461 → tA t2 69 i = tA t1 69 i) ∧ (((¬ (1 ≤ u1 ∧ u1 ≤ 30)) ∧ z2 = (-1000000001)) ∨ ((1 ≤ u1 ∧ u1 ≤ 30) ∧ (tI t1 68 3 = 0) ∧ z2 = (-1000000002)) ∨ ((1 ≤ u1 ∧ u1 ≤ 30) ∧ (¬ tI t1 68 3 = 0) ∧ (CkP (pcA t1 70) (mtA t1 70) (tA t1 91) (tI t1 68 35) (2 * (min u1 (9999 - tA t1 70 2))) z2)))) : z1 = z2 := by
  obtain ⟨m1, m2, m3, m4⟩ := rm
  have h1 := hp1.2
  have k1 := hp2.2.2
  rcases h1 with h | h | h
  · omega
  · omega
  · rcases k1 with k | k | k
    · omega
    · omega
    · have o := ox h.2.1
      obtain ⟨g1, g2, g3, g4⟩ := o.2.2.1.1
      have k2 := k.2.2
      rw [← m2, ← g3] at k2
      refine h.2.2.un k2 (fun i i0 i1 i2 => ?_)
      unfold dueF
      rw [o.pc, o.mt, m4 i.toNat (by omega)]
set_option maxRecDepth 100000 in
theorem bx_43 {t t1 t2 : TS} {z1 z2 : Int} (f1 : FrD [(12, 10), (12, 11), (12, 12), (12, 13), (12, 14), (13, 100), (14, 100), (15, 100), (16, 100), (17, 100), (18, 100), (19, 100), (20, 100), (22, 100), (21, 101), (0, 9)] t t1) (f2 : FrD [(70, 100), (68, 3)] t1 t2) (ox : OX t t1 1 69) (hd1 : HdE t t1) (ok : OK t) (hp1 : (z1 = tI t 1 10) ∧ (tI t1 0 9 = 1) ∧ (tI t1 12 10 = tI t 1 10) ∧ (tI t1 12 11 = tI t 1 11) ∧ (tI t1 12 12 = tI t 1 12) ∧ (tI t1 12 13 = tI t 1 13) ∧ (tI t1 12 14 = tI t 1 14) ∧ (∀ i : Nat, i < 12 → tA t1 13 i = tA t 2 i) ∧ (∀ i : Nat, i < 12 → tA t1 14 i = tA t 3 i) ∧ (∀ i : Nat, i < 12 → tA t1 15 i = tA t 4 i) ∧ (∀ i : Nat, i < 12 → tA t1 16 i = tA t 5 i) ∧ (∀ i : Nat, i < 12 → tA t1 17 i = tA t 6 i) ∧ (∀ i : Nat, i < 12 → tA t1 18 i = tA t 7 i) ∧ (∀ i : Nat, i < 24 → tA t1 19 i = tA t 8 i) ∧ (∀ i : Nat, i < 96 → tA t1 20 i = tA t 9 i) ∧ (∀ i : Nat, i < 3 → tA t1 22 i = tA t 11 i) ∧ (∀ i : Nat, i < 14 → tT t1 21 i = tT t 10 i)) (hp2 : (z2 = tA t1 69 1) ∧ (tI t2 68 3 = 1) ∧ (∀ i : Nat, i < 1461 → tA t2 70 i = tA t1 69 i)) : RPl t1 t2 12 70 ∧ RT t1 t2 12 70 := by
  have hn := ox.n
  have h12 := ox.2.2.2.2.1
  have h14 := ok.f fe_1_11
  obtain ⟨hz, h9, h10, h11, h12', h13, h14', hk, hl, hr, hp, hu, hh, hw, hdk, hla, htx⟩ := hp1
  obtain ⟨kz, k9, ko⟩ := hp2
  exact ⟨ox.pl.mv ok (by omega) (by omega) h10 h11 hk hl hr hp hu hh hdk htx hla hd1 (fun i _ h => ko i h), ox.2.1.mv h11 htx hla hd1 (fun i _ h => ko i h)⟩
set_option maxRecDepth 100000 in
theorem bx_44 {t t1 t2 : TS} {z1 z2 : Int} (f1 : FrD [(1, 10), (1, 11), (1, 12), (1, 13), (1, 14), (2, 100), (3, 100), (4, 100), (5, 100), (6, 100), (7, 100), (8, 100), (9, 100), (11, 100), (10, 101)] t t1) (f2 : FrD [(69, 100)] t1 t2) (ox : OX t t1 1 69) (oy : ¬ tI t 0 9 = 0 → OX t t1 12 70) (hd1 : HdE t t1) (ok : OK t) (m44 : tI t 0 9 = tI t1 68 3) (hp1 : (((tI t 0 9 = 0) ∧ z1 = (-1000000002) ∧ t1 = t) ∨ ((¬ tI t 0 9 = 0) ∧ z1 = tI t 12 10 ∧ (tI t1 1 10 = tI t 12 10) ∧ (tI t1 1 11 = tI t 12 11) ∧ (tI t1 1 12 = tI t 12 12) ∧ (tI t1 1 13 = tI t 12 13) ∧ (tI t1 1 14 = tI t 12 14) ∧ (∀ i : Nat, i < 12 → tA t1 2 i = tA t 13 i) ∧ (∀ i : Nat, i < 12 → tA t1 3 i = tA t 14 i) ∧ (∀ i : Nat, i < 12 → tA t1 4 i = tA t 15 i) ∧ (∀ i : Nat, i < 12 → tA t1 5 i = tA t 16 i) ∧ (∀ i : Nat, i < 12 → tA t1 6 i = tA t 17 i) ∧ (∀ i : Nat, i < 12 → tA t1 7 i = tA t 18 i) ∧ (∀ i : Nat, i < 24 → tA t1 8 i = tA t 19 i) ∧ (∀ i : Nat, i < 96 → tA t1 9 i = tA t 20 i) ∧ (∀ i : Nat, i < 3 → tA t1 11 i = tA t 22 i) ∧ (∀ i : Nat, i < 14 → tT t1 10 i = tT t 21 i)))) (hp2 : (((tI t1 68 3 = 0) ∧ z2 = (-1000000002) ∧ t2 = t1) ∨ ((¬ tI t1 68 3 = 0) ∧ z2 = tA t1 70 1 ∧ (∀ i : Nat, i < 1461 → tA t2 69 i = tA t1 70 i)))) : RPl t1 t2 1 69 ∧ RT t1 t2 1 69 := by
  have h14 := ok.f fe_12_11
  rcases hp1 with h | h
  · rcases hp2 with k | k
    · exact ⟨ox.pl.sm h.2.2 k.2.2, ox.2.1.sm h.2.2 k.2.2⟩
    · exfalso; have q1 := h.1; have q2 := k.1; omega
  · rcases hp2 with k | k
    · exfalso; have q1 := h.1; have q2 := k.1; omega
    · obtain ⟨hA, hz, h10, h11, h12', h13, h14', hk, hl, hr, hp, hu, hh, hw, hdk, hla, htx⟩ := h
      obtain ⟨kA, kz, ko⟩ := k
      have oz := oy hA
      have hn := oz.n
      have h12 := oz.2.2.2.2.1
      exact ⟨oz.pl.mv ok (by omega) (by omega) h10 h11 hk hl hr hp hu hh hdk htx hla hd1 (fun i _ h => ko i h), oz.2.1.mv h11 htx hla hd1 (fun i _ h => ko i h)⟩
set_option maxRecDepth 100000 in
theorem bx_45 {t t1 t2 : TS} {u1 z1 z2 : Int} (f1 : FrD [] t t1) (f2 : FrD [] t1 t2) (ox : OX t t1 1 69) (rm : RM t t1) (hp1 : (((u1 = 0) ∧ z1 = tI t 1 10) ∨ ((u1 = 1) ∧ z1 = tI t 1 13) ∨ ((u1 = 2) ∧ z1 = tI t 1 12) ∨ ((u1 = 3) ∧ z1 = tI t 1 10 - cnX t 1 0) ∨ ((u1 = 4) ∧ z1 = tI t 1 11) ∨ ((u1 = 5) ∧ z1 = tI t 0 8) ∨ ((u1 = 6) ∧ z1 = tI t 37 1) ∨ ((u1 = 7) ∧ z1 = tI t 1 14) ∨ ((¬ (0 ≤ u1 ∧ u1 ≤ 7)) ∧ z1 = (-1000000001)))) (hp2 : (((u1 = 0) ∧ z2 = tA t1 69 1) ∨ ((u1 = 1) ∧ z2 = tA t1 69 2) ∨ ((u1 = 2) ∧ z2 = tA t1 69 3) ∨ ((u1 = 3) ∧ z2 = tA t1 69 1 - caA t1 69 0) ∨ ((u1 = 4) ∧ z2 = tA t1 69 4) ∨ ((u1 = 5) ∧ z2 = tI t1 68 35) ∨ ((u1 = 6) ∧ z2 = tI t1 68 9) ∨ ((u1 = 7) ∧ z2 = tA t1 69 0) ∨ ((¬ (0 ≤ u1 ∧ u1 ≤ 7)) ∧ z2 = (-1000000001)))) : z1 = z2 := by
  have hn := ox.n
  have h12 := ox.2.2.2.2.1
  obtain ⟨g1, g2, g3, g4⟩ := ox.2.2.1.1
  obtain ⟨m1, m2, m3, m4⟩ := rm
  have e := ox.cn 0
  have r := ox.2.1.1
  omega
end
