section ABH3
variable {G : ab_G} {Z : State → Prop} {d : Nat} {Y : ab_Y} {pc : Nat} {k : ab_K}
theorem ab_upd_set {xs : List Int32} {i : Nat} {y : Int32} (h : i < xs.length) : upd (fun j => xs.getD j 0) i y = fun j => (xs.set i y).getD j 0 := by
  funext j
  unfold upd
  dsimp only
  rw [List.getD_eq_getElem?_getD, List.getD_eq_getElem?_getD, List.getElem?_set]
  by_cases hj : j = i
  · subst hj
    simp [h]
  · rw [if_neg hj, if_neg (fun q => hj q.symm)]
/-- behind a store into a cell of as many slots -/
theorem ab_setJ {p : Program} {l : Launch} {e : Env} {R : Room} {s : State} {m : MethodId} {args : Array Value} {below : List Frame} {meth : Method} {c : Code} {Q : State → Prop} {n0 t0 pc' a : Nat} {lv : ab_L} {st' : List Value} {w : ab_W} {x y : ab_C} {H H1 : Heap} {ls : Array Slot} {locs1 : List Loc}
    (hX : ab_X G Z p s m args meth c Y n0) (hn : n0 ≤ w.length) (ha : ab_at G w H) (h1 : w[a]? = some x) (hsz : ab_sz y = ab_sz x) (hl : lv_has ls Y.2.2.1 (ab_lp G lv)) (kk : ab_J G p l e R s m args below meth c Q Y n0 t0 pc' lv st' (w.set a y))
    (hP1 : va_P G.1.1 vwCl ((ab_ws G w).set a (G.2.1 + a, ab_e G y)) H1) (hS1 : va_S (ab_A G) s.heap H1 locs1) : W p l e R s m args below meth c H1 locs1 (w.length - n0) (ab_tot w - t0) Q (F0 m pc' ls (st'.map (ab_cv G))) := by
  rw [← ab_ws_set] at hP1
  have e2 : (w.set a y).length = w.length := List.length_set
  have e3 : ab_tot (w.set a y) = ab_tot w := ab_tot_set h1 hsz
  have k2 := kk ls H1 locs1 hl
  rw [e2, e3] at k2
  have k3 := ab_atW (p := p) (l := l) (e := e) (R := R) (m := m) (args := args) (below := below) (meth := meth) (c := c) (Q := Q) (slots := ab_tot w - t0) (g := F0 m pc' ls (st'.map (ab_cv G))) hX.2.2.2.2.2.2.2.1 (by rw [e2]; exact hn) (by rw [e2]; exact ha.2.2) hP1 hS1
  rw [e2] at k3
  exact k3 (fun hat => k2 hat hS1)
theorem sn_iast {t : Nat} {f : Int32 → Int32} (hd : decode Y.1 pc = .ok (.iastore, 1)) (ht : t = 0) (hf : f = fun x => x) (h : ab_Sd G Z d Y (pc + 1) k) : ab_Sd G Z d Y pc (o_iast t f k) := by
  subst ht; subst hf
  refine h.step fun lv st w r hr => ?_
  unfold o_iast at hr
  split at hr
  · rename_i x i a st'
    split at hr
    · rename_i xs hx
      split at hr
      · cases hr
      · rename_i hi
        split at hr
        · rename_i hlt
          have h1 := ab_ia_some hx
          have hsz : ab_sz (.inr (.inl (0, xs.set i.toNatClampNeg x))) = ab_sz (.inr (.inl (0, xs))) := List.length_set
          refine ⟨lv, st', _, hr, ab_le.set h1 hsz, fun p l e R s m args below meth c Q n0 t0 N T hX hR hn ht hN hT kk ls H locs hl ha hS => ?_⟩
          show W p l e R s m args below meth c H locs _ _ Q (F0 m pc ls (.int x :: .int i :: .ref (ab_ad G a) :: st'.map (ab_cv G)))
          rw [ab_ad_in ha h1]
          refine va_iast (f := fun j => xs.getD j 0) hX.1 hX.2.1 hX.2.2.2.2.2.1 ha.1 (ab_D G w) hS a 0 (ab_ws_at h1) rfl (ab_in hi hlt) hd (fun H1 locs1 hP1 hD1 hS1 => ?_)
          rw [ab_upd_set hlt] at hP1
          exact ab_setJ hX hn ha h1 hsz hl kk (by show va_P G.1.1 vwCl ((ab_ws G w).set a (G.2.1 + a, .inl (G.1.2 0, (xs.set i.toNatClampNeg x).length, .inl (fun j => (xs.set i.toNatClampNeg x).getD j 0)))) H1; rw [List.length_set]; exact hP1) hS1
        · cases hr
    · cases hr
  · cases hr
theorem sn_cast {t : Nat} {f : Int32 → Int32} (hd : decode Y.1 pc = .ok (.castore, 1)) (ht : t = 1) (hf : f = vp_nar .char) (h : ab_Sd G Z d Y (pc + 1) k) : ab_Sd G Z d Y pc (o_iast t f k) := by
  subst ht; subst hf
  refine h.step fun lv st w r hr => ?_
  unfold o_iast at hr
  split at hr
  · rename_i x i a st'
    split at hr
    · rename_i xs hx
      split at hr
      · cases hr
      · rename_i hi
        split at hr
        · rename_i hlt
          have h1 := ab_ia_some hx
          have hsz : ab_sz (.inr (.inl (1, xs.set i.toNatClampNeg (vp_nar .char x)))) = ab_sz (.inr (.inl (1, xs))) := List.length_set
          refine ⟨lv, st', _, hr, ab_le.set h1 hsz, fun p l e R s m args below meth c Q n0 t0 N T hX hR hn ht hN hT kk ls H locs hl ha hS => ?_⟩
          show W p l e R s m args below meth c H locs _ _ Q (F0 m pc ls (.int x :: .int i :: .ref (ab_ad G a) :: st'.map (ab_cv G)))
          rw [ab_ad_in ha h1]
          refine va_cast (f := fun j => xs.getD j 0) hX.1 hX.2.1 hX.2.2.2.2.2.1 ha.1 (ab_D G w) hS a 1 (ab_ws_at h1) rfl (ab_in hi hlt) hd (fun H1 locs1 hP1 hD1 hS1 => ?_)
          rw [ab_upd_set hlt] at hP1
          exact ab_setJ hX hn ha h1 hsz hl kk (by show va_P G.1.1 vwCl ((ab_ws G w).set a (G.2.1 + a, .inl (G.1.2 1, (xs.set i.toNatClampNeg (vp_nar .char x)).length, .inl (fun j => (xs.set i.toNatClampNeg (vp_nar .char x)).getD j 0)))) H1; rw [List.length_set]; exact hP1) hS1
        · cases hr
    · cases hr
  · cases hr
theorem sn_zast {t : Nat} {f : Int32 → Int32} (hd : decode Y.1 pc = .ok (.bastore, 1)) (ht : t = 2) (hf : f = vp_nar .boolean) (h : ab_Sd G Z d Y (pc + 1) k) : ab_Sd G Z d Y pc (o_iast t f k) := by
  subst ht; subst hf
  refine h.step fun lv st w r hr => ?_
  unfold o_iast at hr
  split at hr
  · rename_i x i a st'
    split at hr
    · rename_i xs hx
      split at hr
      · cases hr
      · rename_i hi
        split at hr
        · rename_i hlt
          have h1 := ab_ia_some hx
          have hsz : ab_sz (.inr (.inl (2, xs.set i.toNatClampNeg (vp_nar .boolean x)))) = ab_sz (.inr (.inl (2, xs))) := List.length_set
          refine ⟨lv, st', _, hr, ab_le.set h1 hsz, fun p l e R s m args below meth c Q n0 t0 N T hX hR hn ht hN hT kk ls H locs hl ha hS => ?_⟩
          show W p l e R s m args below meth c H locs _ _ Q (F0 m pc ls (.int x :: .int i :: .ref (ab_ad G a) :: st'.map (ab_cv G)))
          rw [ab_ad_in ha h1]
          refine va_zast (f := fun j => xs.getD j 0) hX.1 hX.2.1 hX.2.2.2.2.2.1 ha.1 (ab_D G w) hS a 2 (ab_ws_at h1) rfl (ab_in hi hlt) hd (fun H1 locs1 hP1 hD1 hS1 => ?_)
          rw [ab_upd_set hlt] at hP1
          exact ab_setJ hX hn ha h1 hsz hl kk (by show va_P G.1.1 vwCl ((ab_ws G w).set a (G.2.1 + a, .inl (G.1.2 2, (xs.set i.toNatClampNeg (vp_nar .boolean x)).length, .inl (fun j => (xs.set i.toNatClampNeg (vp_nar .boolean x)).getD j 0)))) H1; rw [List.length_set]; exact hP1) hS1
        · cases hr
    · cases hr
  · cases hr
theorem ab_rvc (G : ab_G) (o : Option Nat) : va_rf (o.map (ab_ad G)) = ab_cv G (ab_rv o) := by cases o <;> rfl
theorem sn_aald {t : Nat} {C : String} (hd : decode Y.1 pc = .ok (.aaload, 1)) (ht : (ab_tys G)[t]? = some (G.1.2 t, .object C)) (h : ab_Sd G Z d Y (pc + 1) k) : ab_Sd G Z d Y pc (o_aald t k) := by
  refine h.step fun lv st w r hr => ?_
  unfold o_aald at hr
  split at hr
  · rename_i i a st'
    split at hr
    · rename_i xs hx
      split at hr
      · cases hr
      · rename_i hi
        split at hr
        · rename_i x hv
          have h1 := ab_ra_some hx
          refine ⟨lv, ab_rv x :: st', w, hr, ab_le.rf, fun p l e R s m args below meth c Q n0 t0 N T hX hR hn ht2 hN hT kk ls H locs hl ha hS => ?_⟩
          show W p l e R s m args below meth c H locs _ _ Q (F0 m pc ls (.int i :: .ref (ab_ad G a) :: st'.map (ab_cv G)))
          rw [ab_ad_in ha h1]
          refine va_aldq (f := fun j => (xs.getD j none).map (ab_ad G)) hX.1 hX.2.1 hX.2.2.2.2.2.1 ha.1 a t (ab_ws_at h1) ht (ab_in hi (List.getElem?_eq_some_iff.mp hv).1) hd ?_
          have e1 : xs.getD i.toNatClampNeg none = x := by rw [List.getD_eq_getElem?_getD, hv]; rfl
          rw [e1, ab_rvc]
          exact kk ls H locs hl ha hS
        · cases hr
    · cases hr
  · cases hr
theorem ab_up_set {G : ab_G} {xs : List (Option Nat)} {i : Nat} {y : Option Nat} (h : i < xs.length) : va_up (fun j => (xs.getD j none).map (ab_ad G)) i (y.map (ab_ad G)) = fun j => ((xs.set i y).getD j none).map (ab_ad G) := by
  funext j
  unfold va_up
  dsimp only
  rw [List.getD_eq_getElem?_getD, List.getD_eq_getElem?_getD, List.getElem?_set]
  by_cases hj : j = i
  · subst hj
    simp [h]
  · rw [if_neg hj, if_neg (fun q => hj q.symm)]
theorem sn_aast {t ci : Nat} {q : vw_C} (hd : decode Y.1 pc = .ok (.aastore, 1)) (ht : (ab_tys G)[t]? = some (G.1.2 t, .object q.1)) (hc : vwCl[ci]? = some q) (h : ab_Sd G Z d Y (pc + 1) k) : ab_Sd G Z d Y pc (o_aast t ci k) := by
  refine h.step fun lv st w r hr => ?_
  unfold o_aast at hr
  split at hr
  · rename_i v i a st'
    split at hr
    · rename_i xs hx
      split at hr
      · cases hr
      · rename_i hi
        split at hr
        · rename_i c' vs hv
          split at hr
          · rename_i hcc
            obtain ⟨hcc, hlt⟩ := hcc
            subst hcc
            have h1 := ab_ra_some hx
            have hsz : ab_sz (.inr (.inr (t, xs.set i.toNatClampNeg (some v)))) = ab_sz (.inr (.inr (t, xs))) := List.length_set
            refine ⟨lv, st', _, hr, ab_le.set h1 hsz, fun p l e R s m args below meth c Q n0 t0 N T hX hR hn ht2 hN hT kk ls H locs hl ha hS => ?_⟩
            show W p l e R s m args below meth c H locs _ _ Q (F0 m pc ls (.ref (ab_ad G v) :: .int i :: .ref (ab_ad G a) :: st'.map (ab_cv G)))
            have e5 := ab_ad_in ha hv
            rw [ab_ad_in ha h1, e5]
            refine va_astq (f := fun j => (xs.getD j none).map (ab_ad G)) hX.1 hX.2.1 hX.2.2.2.2.2.1 ha.1 (ab_D G w) hS a t v c' (ab_ws_at h1) ht (ab_ws_at hv) hc (ab_in hi hlt) hd (fun H1 locs1 hP1 hD1 hS1 => ?_)
            rw [show (some (G.2.1 + v) : Option Nat) = (some v : Option Nat).map (ab_ad G) by rw [Option.map_some, e5], ab_up_set hlt] at hP1
            exact ab_setJ hX hn ha h1 hsz hl kk (by show va_P G.1.1 vwCl ((ab_ws G w).set a (G.2.1 + a, .inl (G.1.2 t, (xs.set i.toNatClampNeg (some v)).length, .inr (.inr (.inr (.inr (fun j => ((xs.set i.toNatClampNeg (some v)).getD j none).map (ab_ad G)))))))) H1; rw [List.length_set]; exact hP1) hS1
          · cases hr
        · cases hr
    · cases hr
  · rename_i i a st'
    split at hr
    · rename_i xs hx
      split at hr
      · cases hr
      · rename_i hi
        split at hr
        · rename_i hlt
          have h1 := ab_ra_some hx
          have hsz : ab_sz (.inr (.inr (t, xs.set i.toNatClampNeg none))) = ab_sz (.inr (.inr (t, xs))) := List.length_set
          refine ⟨lv, st', _, hr, ab_le.set h1 hsz, fun p l e R s m args below meth c Q n0 t0 N T hX hR hn ht2 hN hT kk ls H locs hl ha hS => ?_⟩
          show W p l e R s m args below meth c H locs _ _ Q (F0 m pc ls (.null :: .int i :: .ref (ab_ad G a) :: st'.map (ab_cv G)))
          rw [ab_ad_in ha h1]
          refine va_astqN (f := fun j => (xs.getD j none).map (ab_ad G)) hX.1 hX.2.1 hX.2.2.2.2.2.1 ha.1 (ab_D G w) hS a t (ab_ws_at h1) ht (ab_in hi hlt) hd (fun H1 locs1 hP1 hD1 hS1 => ?_)
          have e6 : va_up (fun j => (xs.getD j none).map (ab_ad G)) i.toNatClampNeg none = fun j => ((xs.set i.toNatClampNeg none).getD j none).map (ab_ad G) := ab_up_set (G := G) (y := none) hlt
          rw [e6] at hP1
          exact ab_setJ hX hn ha h1 hsz hl kk (by show va_P G.1.1 vwCl ((ab_ws G w).set a (G.2.1 + a, .inl (G.1.2 t, (xs.set i.toNatClampNeg none).length, .inr (.inr (.inr (.inr (fun j => ((xs.set i.toNatClampNeg none).getD j none).map (ab_ad G)))))))) H1; rw [List.length_set]; exact hP1) hS1
        · cases hr
    · cases hr
  · cases hr
theorem sn_alenI {t : Nat} {ty : FieldType} (hd : decode Y.1 pc = .ok (.arraylength, 1)) (ht : (ab_tys G)[t]? = some (G.1.2 t, ty)) (h : ab_Sd G Z d Y (pc + 1) k) : ab_Sd G Z d Y pc (o_alenI t k) := by
  refine h.step fun lv st w r hr => ?_
  unfold o_alenI at hr
  split at hr
  · rename_i a st'
    split at hr
    · rename_i xs hx
      have h1 := ab_ia_some hx
      refine ⟨lv, _, w, hr, ab_le.rf, fun p l e R s m args below meth c Q n0 t0 N T hX hR hn ht2 hN hT kk ls H locs hl ha hS => ?_⟩
      show W p l e R s m args below meth c H locs _ _ Q (F0 m pc ls (.ref (ab_ad G a) :: st'.map (ab_cv G)))
      rw [ab_ad_in ha h1]
      exact va_alen hX.1 hX.2.1 hX.2.2.2.2.2.1 ha.1 a t (ab_ws_at h1) ht rfl hd (kk ls H locs hl ha hS)
    · cases hr
  · cases hr
end ABH3
