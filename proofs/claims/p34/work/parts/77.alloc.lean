/-! ===== a text's object is made ===== -/
theorem quad_app : ∀ (D : List TX) (p : Nat) (x : TX), quad p (D ++ [x]) = quad p D ++ quad (p + 4 * D.length) [x]
  | [], p, x => by simp [quad]
  | y :: r, p, x => by
    have ih := quad_app r (p + 4) x
    have e : p + 4 + 4 * r.length = p + 4 * (y :: r).length := by simp; omega
    rw [e] at ih
    show _ :: _ :: _ :: _ :: quad (p + 4) (r ++ [x]) = _
    rw [ih]
    rfl
theorem quad_len : ∀ (D : List TX) (p : Nat), (quad p D).length = 4 * D.length
  | [], _ => rfl
  | y :: r, p => by
    have ih := quad_len r (p + 4)
    show (quad (p + 4) r).length + 1 + 1 + 1 + 1 = 4 * (r.length + 1)
    omega
theorem mk_len (t : TS) : (mk t).length = 92 + 4 * (tD t).length := by
  have h : (mk t).length = (quad 92 (tD t)).length + 92 := rfl
  rw [h, quad_len]
  omega
set_option maxRecDepth 100000 in
theorem mk_app (t : TS) (x : TX) : mk (uD t (tD t ++ [x])) = mk t ++ quad (mk t).length [x] := by
  have h : mk (uD t (tD t ++ [x])) = mkW (sD (sW t) (quad 92 (tD t ++ [x]))) := rfl
  rw [h, quad_app, mk_len]
  rfl
theorem ia_app {w l : ab_W} {a g : Nat} {xs : List Int32} (h : ab_ia w a g = some xs) : ab_ia (w ++ l) a g = some xs := by
  unfold ab_ia at h ⊢
  have ha : a < w.length := by
    rcases Nat.lt_or_ge a w.length with q | q
    · exact q
    · rw [List.getElem?_eq_none q] at h; cases h
  rw [List.getElem?_append_left ha]
  exact h
theorem gf_app {w l : ab_W} {a ci f : Nat} {v : Value} (h : ab_gf w a ci f = some v) : ab_gf (w ++ l) a ci f = some v := by
  unfold ab_gf at h ⊢
  have ha : a < w.length := by
    rcases Nat.lt_or_ge a w.length with q | q
    · exact q
    · rw [List.getElem?_eq_none q] at h; cases h
  rw [List.getElem?_append_left ha]
  exact h
theorem ia_last (w : ab_W) (g : Nat) (xs : List Int32) (l : ab_W) : ab_ia (w ++ .inr (.inl (g, xs)) :: l) w.length g = some xs := by
  unfold ab_ia
  rw [List.getElem?_append_right (Nat.le_refl _), Nat.sub_self]
  simp
theorem pf_app (w : ab_W) {ci f : Nat} {fs : List Value} {v : Value} (hf : f < fs.length) (l : ab_W) : ab_pf (w ++ .inl (ci, fs) :: l) w.length ci f v = some (w ++ .inl (ci, fs.set f v) :: l) := by
  unfold ab_pf
  rw [List.getElem?_append_right (Nat.le_refl _), Nat.sub_self]
  simp [hf]
theorem c_copyOf {d : Nat} {w : ab_W} {a : Nat} {xs : List Int32} {n : Int} (ha : ab_ia w a 0 = some xs) (h0 : 0 ≤ n ∧ n < xs.length) (hl : xs.length ≤ 5000) (hw : w.length < 900000) : EX FU (d + 1) 251 [.ref a, .int (jI n)] w = some (some (.ref w.length), w ++ [.inr (.inl (0, xs.take n.toNat))]) := by
  have hr : jr n := ⟨by omega, by omega⟩
  have hr2 : jr (xs.length : Int) := ⟨by omega, by omega⟩
  have hc : (jI n).toNatClampNeg = n.toNat := jI_clamp h0.1 hr
  refine EX_run (Bk := bJ7_copyOf_59c91) (nL := 3) rfl rfl rfl (Nat.le_of_ble_eq_true rfl) ?_
  show ab_run _ 1000000 0 [some (.ref a), some (.int (jI n)), none] [] w = _
  refine rn_step rfl ?_
  refine rb_iload rfl ?_
  refine rb_aload rfl ?_
  refine rb_alenL (z := jI (xs.length : Int)) ha (jI_nat _).symm ?_
  refine rj_cne hr hr2 (fun _ => ?_) (fun h => absurd (by omega) h)
  refine rn_step rfl ?_
  refine rb_iload rfl ?_
  refine rb_newi (jI_nn h0.1 hr) (by omega) (by rw [hc]; omega) ?_
  rw [hc]
  refine rb_astore (lv' := [some (.ref a), some (.int (jI n)), some (.ref w.length)]) rfl ?_
  refine rb_aload rfl ?_
  refine rb_push ?_
  refine rb_aload rfl ?_
  refine rb_push ?_
  refine rb_aload rfl ?_
  refine rb_alenL (z := jI (xs.length : Int)) (ia_app ha) (jI_nat _).symm ?_
  refine rb_iload rfl ?_
  refine rb_m2L (z := jI n) rfl (by rw [if_pos ((jI_lt hr hr2).mpr h0.2)]) ?_
  refine rb_acopy (w' := w ++ [.inr (.inl (0, xs.take n.toNat))]) (ia_app ha) (ia_last w 0 _ []) (by decide) (by decide) (jI_nn h0.1 hr) ?_ ?_ rfl ?_ ?_
  · rw [hc]; show 0 + n.toNat ≤ xs.length; omega
  · rw [hc, List.length_replicate]; show 0 + n.toNat ≤ n.toNat; omega
  · rw [hc]
    have e : ab_cp xs (List.replicate n.toNat 0) (0 : Int32).toNatClampNeg (0 : Int32).toNatClampNeg n.toNat = xs.take n.toNat := by
      show (List.replicate n.toNat 0).take 0 ++ ((xs.drop 0).take n.toNat ++ (List.replicate n.toNat (0 : Int32)).drop (0 + n.toNat)) = _
      simp
    rw [e]
    simp
  · refine rb_aload rfl ?_
    exact rb_ret rfl rfl
theorem c_Tinit {d : Nat} {W : ab_W} {k ops : Int} {r1 r2 : Nat} {A1 A2 : ab_C} (h : 0 ≤ ops ∧ ops ≤ 96) (hW : W.length < 900000) : EX FU (d + 1) 62 [.ref W.length, .int (jI k), .int (jI ops), .ref r1, .ref r2] (W ++ [.inl (5, [.int 0, .int 0, .null, .null, .null]), A1, A2]) = some (none, W ++ [.inl (5, [.int (jI k), .int (jI ops), .ref r1, .ref r2, .ref (W.length + 3)]), A1, A2, .inr (.inl (0, List.replicate ops.toNat 0))]) := by
  have hr : jr ops := ⟨by omega, by omega⟩
  have hc : (jI ops).toNatClampNeg = ops.toNat := jI_clamp h.1 hr
  refine EX_run (Bk := bX6_init) (nL := 5) rfl rfl rfl (Nat.le_of_ble_eq_true rfl) ?_
  show ab_run _ 1000000 0 [some (.ref W.length), some (.int (jI k)), some (.int (jI ops)), some (.ref r1), some (.ref r2)] [] _ = _
  refine rn_step rfl ?_
  refine rb_aload rfl ?_
  refine rb_oinit rfl ?_
  refine rb_aload rfl ?_
  refine rb_iload rfl ?_
  refine rb_putI (pf_app W (by simp) _) ?_
  refine rb_aload rfl ?_
  refine rb_iload rfl ?_
  refine rb_putI (pf_app W (by simp) _) ?_
  refine rb_aload rfl ?_
  refine rb_aload rfl ?_
  refine rb_putA (pf_app W (by simp) _) ?_
  refine rb_aload rfl ?_
  refine rb_aload rfl ?_
  refine rb_putA (pf_app W (by simp) _) ?_
  refine rb_aload rfl ?_
  refine rb_iload rfl ?_
  refine rb_newi (jI_nn h.1 hr) (by simp; omega) (by rw [hc]; omega) ?_
  rw [hc, show ∀ x : ab_C, (W ++ [x, A1, A2]).length = W.length + 3 from fun x => by simp, List.append_assoc]
  refine rb_putA (pf_app W (by simp) _) ?_
  exact rb_retv rfl
def FrD (S : List (Nat × Nat)) (t t' : TS) : Prop := (∀ c f, (c, f) ∉ S → tI t' c f = tI t c f) ∧ (∀ c, (c, 100) ∉ S → ∀ i, tA t' c i = tA t c i) ∧ (∀ c, (c, 101) ∉ S → ∀ i, tT t' c i = tT t c i)
theorem Fr.toD {S : List (Nat × Nat)} {t u : TS} (h : Fr S t u) : FrD S t u := ⟨h.1, h.2.1, h.2.2.1⟩
theorem FrD.then {S S' : List (Nat × Nat)} {t u v : TS} (h : FrD S t u) (k : FrD S' u v) (m : ∀ q ∈ S', q ∈ S) : FrD S t v := ⟨fun c f q => (k.1 c f (fun e => q (m _ e))).trans (h.1 c f q), fun c q i => (k.2.1 c (fun e => q (m _ e)) i).trans (h.2.1 c q i), fun c q i => (k.2.2 c (fun e => q (m _ e)) i).trans (h.2.2 c q i)⟩
theorem FrD.uD {S : List (Nat × Nat)} {t u : TS} (h : FrD S t u) (l : List TX) : FrD S t (uD u l) := h
theorem OK.app {t : TS} (ok : OK t) {x : TX} (hx : TXok x) : OK (uD t (tD t ++ [x])) := by
  refine ⟨ok.1, ok.2.1, fun c i q hq => ?_, fun y hy => ?_⟩
  · obtain ⟨j, h1, h2⟩ := ok.2.2.1 c i q hq
    refine ⟨j, ?_, h2⟩
    show j < (tD t ++ [x]).length
    rw [List.length_append]
    exact Nat.lt_add_right _ h1
  · rcases List.mem_append.mp (show y ∈ tD t ++ [x] from hy) with h | h
    · exact ok.2.2.2 y h
    · rw [List.mem_singleton.mp h]; exact hx
theorem rd_blk6 {d : Nat} {t : TS} {key : Int} {N : Nat} {B : List ab_K} {Q : Option Nat → TS → Prop} (ok : OK t) (hk : 0 ≤ key ∧ key ≤ 2) (hl : tI t 39 4 ≤ 95) (hD : (tD t).length ≤ 100000) (hQ : ∀ x, TXok x → Q (some (92 + 4 * (tD t).length)) (uD t (tD t ++ [x]))) : Rp B N (bX1_readText_6 (EX FU (d + 1))) [some (.ref 39), some (.int (jI key))] [] (mk t) (PR Q) := by
  have r4 := ok.f fe_39_4
  have r5 := ok.f fe_39_5
  have hn := mk_len t
  have a40 := (ai_40 t).1
  have a41 := (ai_41 t).1
  obtain ⟨x, hx⟩ : ∃ x : TX, x = (key, tI t 39 5, (row 96 (tA t 40)).take (tI t 39 4).toNat, (row 96 (tA t 41)).take (tI t 39 4).toNat, List.replicate (tI t 39 5).toNat 0) := ⟨_, rfl⟩
  have hok : TXok x := by
    subst hx
    refine ⟨hk, r5, ?_, ?_, ?_⟩
    · show ((row 96 (tA t 40)).take _).length ≤ 95
      rw [List.length_take, row_len]; omega
    · show ((row 96 (tA t 41)).take _).length ≤ 95
      rw [List.length_take, row_len]; omega
    · show (List.replicate (tI t 39 5).toNat (0 : Int32)).length ≤ 96
      rw [List.length_replicate]; omega
  refine Rp_end (v := some (.ref (mk t).length)) (w' := mk (uD t (tD t ++ [x]))) ?_ ⟨some (mk t).length, _, rfl, rfl, by rw [hn]; exact hQ x hok⟩
  show Rb B N (bX1_readText_6 (EX FU (d + 1))) _ _ _ _
  unfold bX1_readText_6
  refine rb_new (by omega) ?_
  refine rb_dupR ?_
  refine rb_iload rfl ?_
  refine rb_aload rfl ?_
  refine rb_getf (gf_app (g_39_5 t)) ?_
  refine rb_aload rfl ?_
  refine rb_getf (gf_app (g_39_2 t)) ?_
  refine rb_aload rfl ?_
  refine rb_getf (gf_app (g_39_4 t)) ?_
  refine rb_callS2 rfl (c_copyOf (d := d) (ia_app a40) (by rw [row_len]; omega) (by rw [row_len]; omega) (by simp; omega)) ?_
  refine rb_aload rfl ?_
  refine rb_getf (gf_app (gf_app (g_39_3 t))) ?_
  refine rb_aload rfl ?_
  refine rb_getf (gf_app (gf_app (g_39_4 t))) ?_
  refine rb_callS2 rfl (c_copyOf (d := d) (ia_app (ia_app a41)) (by rw [row_len]; omega) (by rw [row_len]; omega) (by simp; omega)) ?_
  rw [List.append_assoc, List.append_assoc]
  refine rb_callI4v rfl (c_Tinit (d := d) (W := mk t) (k := key) (ops := tI t 39 5) r5 (by omega)) ?_
  refine rb_ret rfl ?_
  rw [mk_app, hx]
  simp [quad]
