section ABH
variable {G : ab_G} {Z : State → Prop} {d : Nat} {Y : ab_Y} {pc : Nat} {k : ab_K}
theorem sn_getf {ci fi N index : Nat} {C : String} {T : u_T} (hd : decode Y.1 pc = .ok (.getfield index, 3)) (hc : vwCl[ci]? = some (C, T, N)) (hin : ∀ w ∈ u_ws C T N, w ∈ ab_GW) (hk : fi < N) (hw : Cond.fieldLink Y.2.1 index (T fi).1 (T fi).2.1 (T fi).2.2.1 ∈ ab_GW) (h : ab_Sd G Z d Y (pc + 3) k) : ab_Sd G Z d Y pc (o_getf ci fi k) := by
  refine h.step fun lv st w r hr => ?_
  unfold o_getf at hr
  split at hr
  · rename_i a st'
    split at hr
    · rename_i v hv
      obtain ⟨fs, h1, h2⟩ := ab_gf_some hv
      refine ⟨lv, v :: st', w, hr, ab_le.rf, fun p l e R s m args below meth c Q n0 t0 N T hX hR hn ht hN hT kk ls H locs hl ha hS => ?_⟩
      show W p l e R s m args below meth c H locs _ _ Q (F0 m pc ls (.ref (ab_ad G a) :: st'.map (ab_cv G)))
      rw [ab_ad_in ha h1]
      exact va_get hX.1 hX.2.1 hX.2.2.2.2.1 hin hX.2.2.2.1 hX.2.2.2.2.2.1 ha.1 a (ab_ws_at h1) hc fi hk (hX.2.2.2.2.1 _ hw) (fun _ q => q) (v := ab_cv G v) (by rw [List.getElem?_map, h2]; rfl) hd (kk ls H locs hl ha hS)
    · cases hr
  · cases hr
/-- a field's new value, of a kind that the field takes -/
theorem ab_putJ {ci fi N index : Nat} {C : String} {T : u_T} {ty : FieldType} {v : Value} {a : Nat} {lv : ab_L} {st' : List Value} {w : ab_W} {fs : List Value} (ty0 : Nat → FieldType) (hty : ∀ k, k < N → parseFieldDescriptor (T k).2.2.1 = some (ty0 k)) (hnm : ∀ a, a < N → ∀ b, b < N → a ≠ b → (T a).2.1 ≠ (T b).2.1)
    (hd : decode Y.1 pc = .ok (.putfield index, 3)) (hc : vwCl[ci]? = some (C, T, N)) (hin : ∀ w ∈ u_ws C T N, w ∈ ab_GW) (hk : fi < N) (hw : Cond.fieldLink Y.2.1 index (T fi).1 (T fi).2.1 (T fi).2.2.1 ∈ ab_GW)
    (hfin : (T fi).2.2.2 = false ∨ ((T fi).2.2.2 = true ∧ Y.2.2.2.2.1 = "<init>" ∧ (T fi).1 = Y.2.1)) (hpd : parseFieldDescriptor (T fi).2.2.1 = some ty) (hna : narrow ty (ab_cv G v) = ab_cv G v) (hfit : fits ty (ab_cv G v) = true) (h1 : w[a]? = some (.inl (ci, fs))) (h2 : fi < fs.length) :
    ∀ (p : Program) (l : Launch) (e : Env) (R : Room) (s : State) (m : MethodId) (args : Array Value) (below : List Frame) (meth : Method) (c : Code) (Q : State → Prop) (n0 t0 N T : Nat),
        ab_X G Z p s m args meth c Y n0 → ab_Rm d n0 t0 N T R → n0 ≤ w.length → t0 ≤ ab_tot w → (w.set a (.inl (ci, fs.set fi v))).length ≤ N → ab_tot (w.set a (.inl (ci, fs.set fi v))) ≤ T → ab_J G p l e R s m args below meth c Q Y n0 t0 (pc + 3) lv st' (w.set a (.inl (ci, fs.set fi v))) → ab_J G p l e R s m args below meth c Q Y n0 t0 pc lv (v :: .ref a :: st') w := by
  intro p l e R s m args below meth c Q n0 t0 N T hX hR hn ht hN hT kk ls H locs hl ha hS
  show W p l e R s m args below meth c H locs _ _ Q (F0 m pc ls (ab_cv G v :: .ref (ab_ad G a) :: st'.map (ab_cv G)))
  rw [ab_ad_in ha h1]
  have key : ∀ (H1 : Heap) (locs1 : List Loc), va_P G.1.1 vwCl ((ab_ws G w).set a (G.2.1 + a, .inr (ci, (fs.map (ab_cv G)).set fi (ab_cv G v)))) H1 → va_D (ab_A G) ((ab_ws G w).set a (G.2.1 + a, .inr (ci, (fs.map (ab_cv G)).set fi (ab_cv G v)))) → va_S (ab_A G) s.heap H1 locs1 → W p l e R s m args below meth c H1 locs1 (w.length - n0) (ab_tot w - t0) Q (F0 m (pc + 3) ls (st'.map (ab_cv G))) := by
    intro H1 locs1 hP1 hD1 hS1
    have e1 : (ab_ws G w).set a (G.2.1 + a, .inr (ci, (fs.map (ab_cv G)).set fi (ab_cv G v))) = ab_ws G (w.set a (.inl (ci, fs.set fi v))) := by
      rw [ab_ws_set]
      show _ = (ab_ws G w).set a (G.2.1 + a, .inr (ci, (fs.set fi v).map (ab_cv G)))
      rw [List.map_set]
    rw [e1] at hP1
    have e2 : (w.set a (.inl (ci, fs.set fi v))).length = w.length := List.length_set
    have e3 : ab_tot (w.set a (.inl (ci, fs.set fi v))) = ab_tot w := ab_tot_set h1 (by show (fs.set fi v).length = fs.length; exact List.length_set)
    have k2 := kk ls H1 locs1 hl
    rw [e2, e3] at k2
    have k3 := ab_atW (p := p) (l := l) (e := e) (R := R) (m := m) (args := args) (below := below) (meth := meth) (c := c) (Q := Q) (slots := ab_tot w - t0) (g := F0 m (pc + 3) ls (st'.map (ab_cv G))) hX.2.2.2.2.2.2.2.1 (by rw [e2]; exact hn) (by rw [e2]; exact ha.2.2) hP1 hS1
    rw [e2] at k3
    exact k3 (fun hat => k2 hat hS1)
  rcases hfin with hf | ⟨hf, hi, ho⟩
  · exact va_put hX.1 hX.2.1 hX.2.2.2.2.1 hin ty0 hty hnm hX.2.2.2.1 hX.2.2.2.2.2.1 ha.1 (ab_D G w) hS a (ab_ws_at h1) hc fi hk (hX.2.2.2.2.1 _ hw) (fun _ q => q) hf hpd hna hfit (by rw [List.length_map]; exact h2) hd key
  · exact va_putF hX.1 hX.2.1 hX.2.2.2.2.1 hin ty0 hty hnm hX.2.2.2.1 hX.2.2.2.2.2.1 ha.1 (ab_D G w) hS a (ab_ws_at h1) hc fi hk (hX.2.2.2.2.1 _ hw) (fun _ q => q) hf (hX.2.2.2.2.2.2.2.2.2.2.1.trans hi) ho hpd hna hfit (by rw [List.length_map]; exact h2) hd key
theorem sn_putI {ci fi N index : Nat} {C : String} {T : u_T} (ty0 : Nat → FieldType) (hty : ∀ k, k < N → parseFieldDescriptor (T k).2.2.1 = some (ty0 k)) (hnm : ∀ a, a < N → ∀ b, b < N → a ≠ b → (T a).2.1 ≠ (T b).2.1)
    (hd : decode Y.1 pc = .ok (.putfield index, 3)) (hc : vwCl[ci]? = some (C, T, N)) (hin : ∀ w ∈ u_ws C T N, w ∈ ab_GW) (hk : fi < N) (hw : Cond.fieldLink Y.2.1 index (T fi).1 (T fi).2.1 (T fi).2.2.1 ∈ ab_GW)
    (hfin : (T fi).2.2.2 = false ∨ ((T fi).2.2.2 = true ∧ Y.2.2.2.2.1 = "<init>" ∧ (T fi).1 = Y.2.1)) (hpd : parseFieldDescriptor (T fi).2.2.1 = some .int) (h : ab_Sd G Z d Y (pc + 3) k) : ab_Sd G Z d Y pc (o_putI ci fi k) := by
  refine h.step fun lv st w r hr => ?_
  unfold o_putI at hr
  split at hr
  · rename_i x a st'
    split at hr
    · rename_i w' hv
      obtain ⟨fs, h1, h2, rfl⟩ := ab_pf_some hv
      exact ⟨lv, st', _, hr, ab_le.set h1 (by show (fs.set fi _).length = fs.length; exact List.length_set), ab_putJ ty0 hty hnm hd hc hin hk hw hfin hpd rfl rfl h1 h2⟩
    · cases hr
  · cases hr
theorem sn_putZ {ci fi N index : Nat} {C : String} {T : u_T} (ty0 : Nat → FieldType) (hty : ∀ k, k < N → parseFieldDescriptor (T k).2.2.1 = some (ty0 k)) (hnm : ∀ a, a < N → ∀ b, b < N → a ≠ b → (T a).2.1 ≠ (T b).2.1)
    (hd : decode Y.1 pc = .ok (.putfield index, 3)) (hc : vwCl[ci]? = some (C, T, N)) (hin : ∀ w ∈ u_ws C T N, w ∈ ab_GW) (hk : fi < N) (hw : Cond.fieldLink Y.2.1 index (T fi).1 (T fi).2.1 (T fi).2.2.1 ∈ ab_GW)
    (hfin : (T fi).2.2.2 = false ∨ ((T fi).2.2.2 = true ∧ Y.2.2.2.2.1 = "<init>" ∧ (T fi).1 = Y.2.1)) (hpd : parseFieldDescriptor (T fi).2.2.1 = some .boolean) (h : ab_Sd G Z d Y (pc + 3) k) : ab_Sd G Z d Y pc (o_putZ ci fi k) := by
  refine h.step fun lv st w r hr => ?_
  unfold o_putZ at hr
  split at hr
  · rename_i x a st'
    split at hr
    · rename_i hx
      split at hr
      · rename_i w' hv
        obtain ⟨fs, h1, h2, rfl⟩ := ab_pf_some hv
        refine ⟨lv, st', _, hr, ab_le.set h1 (by show (fs.set fi _).length = fs.length; exact List.length_set), ab_putJ ty0 hty hnm hd hc hin hk hw hfin hpd ?_ ?_ h1 h2⟩
        · rcases hx with rfl | rfl <;> rfl
        · rcases hx with rfl | rfl <;> rfl
      · cases hr
    · cases hr
  · cases hr
theorem sn_putA {ci fi N index : Nat} {C : String} {T : u_T} {ty : FieldType} (ty0 : Nat → FieldType) (hty : ∀ k, k < N → parseFieldDescriptor (T k).2.2.1 = some (ty0 k)) (hnm : ∀ a, a < N → ∀ b, b < N → a ≠ b → (T a).2.1 ≠ (T b).2.1)
    (hd : decode Y.1 pc = .ok (.putfield index, 3)) (hc : vwCl[ci]? = some (C, T, N)) (hin : ∀ w ∈ u_ws C T N, w ∈ ab_GW) (hk : fi < N) (hw : Cond.fieldLink Y.2.1 index (T fi).1 (T fi).2.1 (T fi).2.2.1 ∈ ab_GW)
    (hfin : (T fi).2.2.2 = false ∨ ((T fi).2.2.2 = true ∧ Y.2.2.2.2.1 = "<init>" ∧ (T fi).1 = Y.2.1)) (hpd : parseFieldDescriptor (T fi).2.2.1 = some ty) (hr1 : ∀ a, narrow ty (.ref a) = .ref a ∧ fits ty (.ref a) = true) (hr2 : narrow ty .null = .null ∧ fits ty .null = true) (h : ab_Sd G Z d Y (pc + 3) k) : ab_Sd G Z d Y pc (o_putA ci fi k) := by
  refine h.step fun lv st w r hr => ?_
  unfold o_putA at hr
  split at hr
  · rename_i b a st'
    split at hr
    · rename_i w' hv
      obtain ⟨fs, h1, h2, rfl⟩ := ab_pf_some hv
      exact ⟨lv, st', _, hr, ab_le.set h1 (by show (fs.set fi _).length = fs.length; exact List.length_set), ab_putJ ty0 hty hnm hd hc hin hk hw hfin hpd (hr1 _).1 (hr1 _).2 h1 h2⟩
    · cases hr
  · rename_i a st'
    split at hr
    · rename_i w' hv
      obtain ⟨fs, h1, h2, rfl⟩ := ab_pf_some hv
      exact ⟨lv, st', _, hr, ab_le.set h1 (by show (fs.set fi _).length = fs.length; exact List.length_set), ab_putJ ty0 hty hnm hd hc hin hk hw hfin hpd hr2.1 hr2.2 h1 h2⟩
    · cases hr
  · cases hr
theorem ab_in {i : Int32} {n : Nat} (h1 : ¬ i < 0) (h2 : i.toNatClampNeg < n) : vp_in i n := fun q => q.elim h1 (fun z => by omega)
theorem ab_getD {xs : List Int32} {i : Nat} {x : Int32} (h : xs[i]? = some x) : xs.getD i 0 = x := by rw [List.getD_eq_getElem?_getD, h]; rfl
theorem sn_iald {t : Nat} (hd : decode Y.1 pc = .ok (.iaload, 1)) (ht : t = 0) (h : ab_Sd G Z d Y (pc + 1) k) : ab_Sd G Z d Y pc (o_iald t k) := by
  subst ht
  refine h.step fun lv st w r hr => ?_
  unfold o_iald at hr
  split at hr
  · rename_i i a st'
    split at hr
    · rename_i xs hx
      split at hr
      · cases hr
      · rename_i hi
        split at hr
        · rename_i x hv
          have h1 := ab_ia_some hx
          refine ⟨lv, .int x :: st', w, hr, ab_le.rf, fun p l e R s m args below meth c Q n0 t0 N T hX hR hn ht hN hT kk ls H locs hl ha hS => ?_⟩
          show W p l e R s m args below meth c H locs _ _ Q (F0 m pc ls (.int i :: .ref (ab_ad G a) :: st'.map (ab_cv G)))
          rw [ab_ad_in ha h1]
          refine va_iald (f := fun j => xs.getD j 0) hX.1 hX.2.1 hX.2.2.2.2.2.1 ha.1 a 0 (ab_ws_at h1) rfl (ab_in hi (List.getElem?_eq_some_iff.mp hv).1) hd ?_
          rw [ab_getD hv]
          exact kk ls H locs hl ha hS
        · cases hr
    · cases hr
  · cases hr
theorem sn_cald {t : Nat} (hd : decode Y.1 pc = .ok (.caload, 1)) (ht : t = 1) (h : ab_Sd G Z d Y (pc + 1) k) : ab_Sd G Z d Y pc (o_iald t k) := by
  subst ht
  refine h.step fun lv st w r hr => ?_
  unfold o_iald at hr
  split at hr
  · rename_i i a st'
    split at hr
    · rename_i xs hx
      split at hr
      · cases hr
      · rename_i hi
        split at hr
        · rename_i x hv
          have h1 := ab_ia_some hx
          refine ⟨lv, .int x :: st', w, hr, ab_le.rf, fun p l e R s m args below meth c Q n0 t0 N T hX hR hn ht hN hT kk ls H locs hl ha hS => ?_⟩
          show W p l e R s m args below meth c H locs _ _ Q (F0 m pc ls (.int i :: .ref (ab_ad G a) :: st'.map (ab_cv G)))
          rw [ab_ad_in ha h1]
          refine va_cald (f := fun j => xs.getD j 0) hX.1 hX.2.1 hX.2.2.2.2.2.1 ha.1 a 1 (ab_ws_at h1) rfl (ab_in hi (List.getElem?_eq_some_iff.mp hv).1) hd ?_
          rw [ab_getD hv]
          exact kk ls H locs hl ha hS
        · cases hr
    · cases hr
  · cases hr
theorem sn_zald {t : Nat} (hd : decode Y.1 pc = .ok (.baload, 1)) (ht : t = 2) (h : ab_Sd G Z d Y (pc + 1) k) : ab_Sd G Z d Y pc (o_iald t k) := by
  subst ht
  refine h.step fun lv st w r hr => ?_
  unfold o_iald at hr
  split at hr
  · rename_i i a st'
    split at hr
    · rename_i xs hx
      split at hr
      · cases hr
      · rename_i hi
        split at hr
        · rename_i x hv
          have h1 := ab_ia_some hx
          refine ⟨lv, .int x :: st', w, hr, ab_le.rf, fun p l e R s m args below meth c Q n0 t0 N T hX hR hn ht hN hT kk ls H locs hl ha hS => ?_⟩
          show W p l e R s m args below meth c H locs _ _ Q (F0 m pc ls (.int i :: .ref (ab_ad G a) :: st'.map (ab_cv G)))
          rw [ab_ad_in ha h1]
          refine va_zald (f := fun j => xs.getD j 0) hX.1 hX.2.1 hX.2.2.2.2.2.1 ha.1 a 2 (ab_ws_at h1) rfl (ab_in hi (List.getElem?_eq_some_iff.mp hv).1) hd ?_
          rw [ab_getD hv]
          exact kk ls H locs hl ha hS
        · cases hr
    · cases hr
  · cases hr
end ABH
