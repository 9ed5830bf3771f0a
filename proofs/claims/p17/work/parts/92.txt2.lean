/-! ===== one text, read by both sides ===== -/
theorem KYp_un {g : Nat → Int} {c : PCu} {q q' : Int} (h : KYp g c q) (h' : KYp g c q') : q = q' := by
  rcases h with ⟨rfl, h⟩ | ⟨rfl, h⟩ | ⟨rfl, h⟩ | ⟨rfl, h⟩ <;> rcases h' with ⟨rfl, h'⟩ | ⟨rfl, h'⟩ | ⟨rfl, h'⟩ | ⟨rfl, h'⟩
  · rfl
  · exact absurd h h'.1
  · exact absurd h h'.1
  · exact absurd h h'.1
  · exact absurd h' h.1
  · rfl
  · exact absurd h.2 h'.2.1
  · exact absurd h.2 h'.2.1
  · exact absurd h' h.1
  · exact absurd h'.2 h.2.1
  · rfl
  · exact absurd h.2.2 h'.2.2
  · exact absurd h' h.1
  · exact absurd h'.2 h.2.1
  · exact absurd h'.2.2 h.2.2
  · rfl
theorem Rft_un {g : Nat → Int} {n q f f' : Int} {s : PSs} (h : Rft g n q s f) (h' : Rft g n q s f') : f = f' := by
  obtain ⟨k, r, e, er⟩ := h
  obtain ⟨k', r', e', er'⟩ := h'
  have u := syr_un e e'
  rw [← er, ← er', u]
theorem Rft_sy {g : Nat → Int} {n q f : Int} {s : PSs} {k : Nat} {r : PRs} (h : Rft g n q s f) (h' : syr g n q k s = some r) : f = r.1 := by
  obtain ⟨j, r', e, er⟩ := h
  rw [← er, syr_un e h']
theorem b_pv {t : TS} (ok : OK t) : WC (tI t 37 1) (b1T t) ∧ ∀ q, PVx (tA t 38) (tI t 37 1) q (yT t q) := by
  have r37 := ok.f fe_37_1
  have w0 : WC (tI t 37 1) (b0T t) := (WC.st (g := tA t 38) (c := (0, 3, 0, 0)) (by decide) r37.1).1
  have w1 := WC.nx (g := tA t 38) w0
  have c1 : CN (tA t 38) (b1T t) := CN.st ⟨by have := w0.1; have := w0.2.1; omega, w0.2.2.1⟩
  exact ⟨w1.1, fun q => RD_PV 80 0 0 0 _ (by decide) ⟨fun p hp => (by cases hp), w1.1, c1⟩⟩
theorem xf_r {t : TS} {f q : Int} (ok : OK t) (h : XFp t f) (ky : KYp (tA t 38) (b0T t) q) (h0 : 0 ≤ q) {T : Nat → Int} (hT : T 0 = 0) : Rft (tA t 38) (tI t 37 1) q (b1T t, [], [], 0, 1, 0, 0, T) f ∧ ¬ f = -1 := by
  obtain ⟨q', ky', h⟩ := h
  have eq := KYp_un ky ky'
  subst eq
  have r37 := ok.f fe_37_1
  obtain ⟨w1, pv⟩ := b_pv ok
  have m := rd_sy (g := tA t 38) (n := tI t 37 1) (q := q) (by omega) w1 hT (M := 80) (by decide)
  rcases h with h | ⟨-, h | h⟩
  · omega
  · exact ⟨by rw [h.2]; exact m.2.2 h.1, by rw [h.2]; exact h.1⟩
  · have p0 := (pv q).2.1.1
    exact ⟨by rw [h.2.2]; exact m.2.1 h.1 h.2.1, by rw [h.2.2]; omega⟩
theorem xs_r {t : TS} {x : TX} (ok : OK t) (h : XSp t x) {T : Nat → Int} (hT : T 0 = 0) : ∃ k, syr (tA t 38) (tI t 37 1) x.1 k (b1T t, [], [], 0, 1, 0, 0, T) = some (-1, ls1 (xcF x) x.2.2.1.length, x.2.1) := by
  obtain ⟨n, f, g, ky, h0, h2, h3, h5, h6, h7, h8, gv⟩ := h
  have r37 := ok.f fe_37_1
  obtain ⟨w1, pv⟩ := b_pv ok
  have m := rd_sy (g := tA t 38) (n := tI t 37 1) (q := x.1) (by omega) w1 hT (M := 80) (by decide)
  obtain ⟨k, hk⟩ := m.1 h2 h3
  refine ⟨k, ?_⟩
  rw [h6, h7]
  have e : (yT t x.1).2.1.map trF = ls1 (xcF x) n := by
    rw [h5, ls1_lsP]
    exact ls1_congr (fun j hj => (h8 j hj).symm)
  rw [← e]
  exact hk
theorem XSp.gv {t : TS} {x : TX} (h : XSp t x) : GVx x := by
  obtain ⟨n, f, g, ky, h0, h2, h3, h5, h6, h7, h8, gv⟩ := h
  exact gv
theorem tx_two {t t1 t2 : TS} {z1 z2 : Int} (ok : OK t) (gd : GD t) (h1 : XCp t z1 t1) (h2 : XTp t1 z2 t2) (g75 : tA t1 75 = tA t 38) (n9 : tI t1 68 9 = tI t 37 1) (e4 : tI t 1 11 = tA t1 69 4) (h14 : tI t 1 11 ≤ 14) : z1 = z2 ∧ GD t1 ∧ HdE t t1 ∧ ((sm1 t t1 ∧ sm69 t1 t2) ∨ ∃ x, XSp t x ∧ (tD t1).map Dhd = (tD t).map Dhd ++ [Dhd x] ∧ tI t 1 11 < 14 ∧ ATq t t1 x ∧ ADp t1 t2 x.1 x.2.2.1.length x.2.1 (xcF x) z2) := by
  have c0 : c0T t1 = b0T t := by unfold c0T b0T; rw [g75, n9]
  have c1 : c1T t1 = b1T t := by unfold c1T b1T; rw [c0, g75, n9]
  obtain ⟨q, ky, h2⟩ := h2
  rw [g75, n9, c0, c1] at h2
  rw [g75, c0] at ky
  rcases h1 with ⟨f, hf, hz, s1, hd⟩ | ⟨x, hx, hd, h1⟩
  · have gd1 : GD t1 := gd.hd hd
    have he : HdE t t1 := HdE.of hd
    rcases h2 with ⟨eq, hz2, s2⟩ | ⟨h0, T0, hT0, h2⟩
    · subst eq
      obtain ⟨q', ky', hf⟩ := hf
      have e := KYp_un ky ky'
      subst e
      rcases hf with k | k
      · exact ⟨by rw [hz, hz2, k.2], gd1, he, Or.inl ⟨s1, s2⟩⟩
      · exact absurd k.1 (by decide)
    · obtain ⟨r, rn⟩ := xf_r ok hf ky h0 hT0
      rcases h2 with ⟨f', hf', h0', hz2, s2⟩ | ⟨k, n, a, g, hs, h2⟩
      · exact ⟨by rw [hz, hz2, Rft_un r hf'], gd1, he, Or.inl ⟨s1, s2⟩⟩
      · exact absurd (Rft_sy r hs) rn
  · have gd1 : GD t1 := GD.add gd hd hx.gv
    have he : HdE t t1 := tx_old hd
    have kx : KYp (tA t 38) (b0T t) x.1 ∧ 0 ≤ x.1 := by
      obtain ⟨n, f, g, k1, k2, -⟩ := hx
      exact ⟨k1, k2⟩
    have e := KYp_un ky kx.1
    subst e
    rcases h2 with ⟨eq, hz2, s2⟩ | ⟨h0, T0, hT0, h2⟩
    · omega
    · obtain ⟨k, hk⟩ := xs_r ok hx hT0
      rcases h2 with ⟨f', hf', h0', hz2, s2⟩ | ⟨k', n, a, g, hs, h2⟩
      · have := Rft_sy hf' hk
        simp only at this
        omega
      · have u := syr_un hk hs
        have u2 := congrArg (fun p : PRs => p.2) (show ((-1 : Int), ls1 (xcF x) x.2.2.1.length, x.2.1) = (-1, ls1 g n, a) from u)
        have u3 := congrArg Prod.fst u2
        have u4 := congrArg Prod.snd u2
        simp only at u3 u4
        obtain ⟨en, ef⟩ := ls1_inj u3
        rcases h2 with ⟨f14, hz2, s2⟩ | ad
        · rcases h1 with ⟨g14, hz1, s1⟩ | ⟨g14, hz1, at'⟩
          · exact ⟨by rw [hz1, hz2], gd1, he, Or.inl ⟨s1, s2⟩⟩
          · exfalso; omega
        · obtain ⟨a1, a2, a3, a4, a5, a6, a7⟩ := ad
          rcases h1 with ⟨g14, hz1, s1⟩ | ⟨g14, hz1, at'⟩
          · exfalso; omega
          · refine ⟨by rw [hz1, a2, e4], gd1, he, Or.inr ⟨x, hx, hd, g14, at', a1, a2, a3, by rw [en]; exact a4, by rw [u4]; exact a5, fun j hj => ?_, a7⟩⟩
            rw [a6 j (by omega)]
            exact (ef j hj).symm
theorem Rnz {t1 t2 : TS} {q z : Int} {n : Nat} {a : Int} {f : Nat → Int} (h : NZ t1 69) (ad : ADp t1 t2 q n a f z) (h4 : 0 ≤ tA t1 69 4) (hn : 1 ≤ n ∧ n ≤ 95) (hq : 0 ≤ q) : NZ t2 69 := by
  obtain ⟨a1, a2, a3, a4, a5, a6, a7⟩ := ad
  intro k hk
  by_cases e : k = (tA t1 69 4).toNat
  · rw [e, a4]
    omega
  · rw [a7 (89 + 2 * k) (by omega) (by omega) (by omega) (by omega)]
    exact h k (by omega)
theorem RT_add {t t1 t2 : TS} {x : TX} {z : Int} (ok1 : OK t1) (h : RT t t1 1 69) (hx0 : 0 ≤ x.1) (hd : (tD t1).map Dhd = (tD t).map Dhd ++ [Dhd x]) (h14 : tI t 1 11 < 14) (at' : ATq t t1 x) (ad : ADp t1 t2 x.1 x.2.2.1.length x.2.1 (xcF x) z) : RT t1 t2 1 69 := by
  obtain ⟨a1, a2, a3, a4, a5, a6, a7⟩ := ad
  obtain ⟨b1, b2, b3, b4⟩ := at'
  obtain ⟨h1, h2, h3, h4⟩ := h
  have he := tx_old hd
  have hl : (tD t1).length = (tD t).length + 1 := by
    have := congrArg List.length hd
    simpa using this
  have hn := tx_new hd
  have hok := (tx_ok ok1 (j := (tD t).length) (by omega)).2.2.1
  have e3 := (Dhd_1 hn).2.2.1
  rw [e3] at hok
  have hok1 := (tx_ok ok1 (j := (tD t).length) (by omega)).1
  rw [(Dhd_1 hn).1] at hok1
  refine ⟨by rw [b1, h1, a3], by omega, fun k hk => ?_, fun q hq => ?_⟩
  · by_cases e : k = (tA t1 69 4).toNat
    · refine ⟨(tD t).length, by omega, ?_, ?_⟩
      · show tT t1 10 k = _
        rw [b2 k, if_pos (by omega)]
      · have hx : TXr x t2 69 k := by
          rw [e]
          exact ⟨by omega, a4, a5, fun i hi => a6 i hi⟩
        exact hx.hd hn
    · obtain ⟨j, hj, ht, hx⟩ := h3 k (by omega)
      refine ⟨j, by omega, ?_, ?_⟩
      · show tT t1 10 k = _
        rw [b2 k, if_neg (by omega)]
        exact ht
      · obtain ⟨x1, x2, x3, x4⟩ := hx
        have hx2 : TXr (tx t j) t2 69 k := by
          refine ⟨x1, ?_, ?_, fun i hi => ?_⟩
          · rw [a7 _ (by omega) (by omega) (by omega) (by omega)]; exact x2
          · rw [a7 _ (by omega) (by omega) (by omega) (by omega)]; exact x3
          · rw [a7 _ (by omega) (by omega) (by omega) (by omega)]; exact x4 i hi
        exact hx2.hd (he.2 j hj)
  · show tA t1 11 q = _
    rw [b3 q]
    have ec : cuA t2 69 q = coF (rkA t2 69) q ((tA t1 69 4).toNat + 1) := by
      unfold cuA
      rw [a3, show (tA t1 69 4 + 1).toNat = (tA t1 69 4).toNat + 1 by omega]
    have ek : rkA t2 69 (tA t1 69 4).toNat = 1000 * x.1 + (x.2.2.1.length : Int) := a4
    rw [ec]
    show _ = if rkA t2 69 (tA t1 69 4).toNat / 1000 = (q : Int) then _ else _
    rw [ek]
    by_cases e : (q : Int) = x.1
    · rw [if_pos (by omega), if_pos (by omega), h1]
      omega
    · rw [if_neg (by omega), if_neg (by omega)]
      have e2 := h4 q hq
      refine e2.trans ?_
      unfold cuA
      refine coF_cg (fun k hk => ?_)
      show tA t1 69 (89 + 2 * k) = tA t2 69 (89 + 2 * k)
      rw [a7 _ (by omega) (by omega) (by omega) (by omega)]
theorem DK_add {t t1 : TS} {x : TX} (ok : OK t) (h : DK t 1 (tI t 1 10)) (rt : RT t t 1 69) (hx0 : 0 ≤ x.1) (he : HdE t t1) (at' : ATq t t1 x) (a1 : ∀ i, tA t1 2 i = tA t 2 i) (a2 : ∀ i, tA t1 3 i = tA t 3 i) (a3 : ∀ i, tA t1 4 i = tA t 4 i) (e10 : tI t1 1 10 = tI t 1 10) : DK t1 1 (tI t1 1 10) := by
  obtain ⟨b1, b2, b3, b4⟩ := at'
  rw [e10]
  rcases b4 with ⟨hk, b4⟩ | ⟨hk, b4⟩
  · intro s r v hs hr hv
    have e9 : tA t1 (1 + 8) ((s * 4 + r) * 2 + v) = tA t (1 + 8) ((s * 4 + r) * 2 + v) := b4 _
    rw [e9, h s r v hs hr hv]
    have hl : lwF t1 1 0 = lwF t 1 0 := by
      have c0 : tA t1 (1 + 10) 0 = tA t (1 + 10) 0 := by
        show tA t1 11 0 = tA t 11 0
        rw [b3 0, if_neg (by omega)]
      have cb := coF_b (rkA t 69) (0 : Nat) (tA t 69 4).toNat
      have c4 := rt.2.2.2 0 (by decide)
      have c1 := rt.1
      have c2 : tA t (1 + 10) 0 = coF (rkA t 69) (0 : Nat) (tA t 69 4).toNat := c4
      have c5 := rt.2.1
      unfold lwF
      rw [c0, b1]
      by_cases q : 0 ≤ tA t (1 + 10) 0 ∧ tA t (1 + 10) 0 ≤ tI t 1 11 - 1
      · rw [if_pos q, if_pos (by omega)]
        show tT t1 10 _ = tT t 10 _
        rw [b2, if_neg (by omega)]
      · rw [if_neg q, if_neg (by omega)]
    unfold dkC
    rw [hl]
    have d1 : tA t1 (1 + 1) s = tA t (1 + 1) s := a1 s
    have d2 : tA t1 (1 + 2) s = tA t (1 + 2) s := a2 s
    have d3 : tA t1 (1 + 3) s = tA t (1 + 3) s := a3 s
    rw [d1, d2, d3]
    unfold pdF
    rw [exF_he he (lwF_ok ok 1 0)]
  · exact b4
