/-! ===== longs ===== -/
def o_lstore (i : Nat) (k : ab_K) : ab_K := fun lv st w => match st with
  | .long x :: st' => k (ab_st2 lv i (.long x)) st' w
  | _ => none
def o_lbin (f : Int64 → Int64 → Int64) (k : ab_K) : ab_K := fun lv st w => match st with
  | .long y :: .long x :: st' => k lv (.long (f x y) :: st') w
  | _ => none
def o_lneg (k : ab_K) : ab_K := fun lv st w => match st with
  | .long x :: st' => k lv (.long (-x) :: st') w
  | _ => none
def o_i2l (k : ab_K) : ab_K := fun lv st w => match st with
  | .int x :: st' => k lv (.long x.toInt64 :: st') w
  | _ => none
def o_l2i (k : ab_K) : ab_K := fun lv st w => match st with
  | .long x :: st' => k lv (.int x.toInt32 :: st') w
  | _ => none
def o_lcmp (k : ab_K) : ab_K := fun lv st w => match st with
  | .long y :: .long x :: st' => k lv (.int (lg_cmp x y) :: st') w
  | _ => none
theorem ab_st2_sub {G : ab_G} {lv : ab_L} {i : Nat} {v : Value} : ∀ q ∈ ab_lp G (ab_st2 lv i v), q ∈ (i, ab_cv G v) :: (ab_lp G lv).filter (fun q => !(q.1 == i) && (!(q.1 == i + 1) && !(q.1 + 1 == i && q.2.category == 2))) := by
  intro q hq
  obtain ⟨u, h1, h2⟩ := ab_lp_mem.mp hq
  unfold ab_st2 at h1
  by_cases hj : i + 1 = q.1
  · rw [← hj] at h1
    have hlt := (List.getElem?_eq_some_iff.mp h1).1
    rw [List.length_set] at hlt
    rw [List.getElem?_set_self hlt] at h1
    cases h1
  · rw [List.getElem?_set_ne hj] at h1
    by_cases hi : i = q.1
    · subst hi
      have hl := (List.getElem?_eq_some_iff.mp h1).1
      rw [List.length_set] at hl
      rw [List.getElem?_set_self hl] at h1
      simp at h1
      subst h1
      have : q = (q.1, ab_cv G v) := by rw [← h2]
      rw [this]
      exact List.mem_cons_self
    · rw [List.getElem?_set_ne hi] at h1
      obtain ⟨h3, h4⟩ := ab_kill_get h1
      refine List.mem_cons_of_mem _ (List.mem_filter.mpr ⟨ab_lp_mem.mpr ⟨u, h3, h2⟩, ?_⟩)
      have e1 : (q.1 == i) = false := by simp; omega
      have e2 : (q.1 == i + 1) = false := by simp; omega
      rw [e1, e2, h2, ab_cv_cat]
      by_cases h5 : q.1 + 1 = i
      · have : ¬ u.category = 2 := fun h6 => h4 ⟨h5, h6⟩
        simp [this]
      · simp [h5]
section ABLO
variable {G : ab_G} {Z : State → Prop} {d : Nat} {Y : ab_Y} {pc : Nat} {k : ab_K}
theorem sn_lload_n {n : Fin 4} {i : Nat} (hd : decode Y.1 pc = .ok (.lload_n n, 1)) (hi : (n : Nat) = i) (h : ab_Sd G Z d Y (pc + 1) k) : ab_Sd G Z d Y pc (o_lload i k) := by
  refine h.step fun lv st w r hr => ?_
  unfold o_lload at hr
  split at hr
  · rename_i x hx
    exact ⟨lv, .long x :: st, w, hr, ab_le.rf, fun p l e R s m args below meth c Q n0 t0 N T hX hR hn ht hN hT kk ls H locs hl ha hS => lv_lload_n hX.1 hX.2.1 hd hi (ab_has_get hl hx) (kk ls H locs hl ha hS)⟩
  · cases hr
theorem sn_lload {i : Nat} (hd : decode Y.1 pc = .ok (.lload i, 2)) (h : ab_Sd G Z d Y (pc + 2) k) : ab_Sd G Z d Y pc (o_lload i k) := by
  refine h.step fun lv st w r hr => ?_
  unfold o_lload at hr
  split at hr
  · rename_i x hx
    exact ⟨lv, .long x :: st, w, hr, ab_le.rf, fun p l e R s m args below meth c Q n0 t0 N T hX hR hn ht hN hT kk ls H locs hl ha hS => lv_lload hX.1 hX.2.1 hd (ab_has_get hl hx) (kk ls H locs hl ha hS)⟩
  · cases hr
theorem sn_lstore_n {n : Fin 4} {i : Nat} (hd : decode Y.1 pc = .ok (.lstore_n n, 1)) (hi : (n : Nat) = i) (hL : i + 1 < Y.2.2.1) (h : ab_Sd G Z d Y (pc + 1) k) : ab_Sd G Z d Y pc (o_lstore i k) := by
  refine h.step fun lv st w r hr => ?_
  unfold o_lstore at hr
  split at hr
  · rename_i x st'
    exact ⟨_, st', w, hr, ab_le.rf, fun p l e R s m args below meth c Q n0 t0 N T hX hR hn ht hN hT kk ls H locs hl ha hS => lv_lstore_n hX.1 hX.2.1 hd hi hl hL rfl (fun ls' hl' => kk ls' H locs (ab_has_sub hl' ab_st2_sub) ha hS)⟩
  · cases hr
theorem sn_lstore {i : Nat} (hd : decode Y.1 pc = .ok (.lstore i, 2)) (hL : i + 1 < Y.2.2.1) (h : ab_Sd G Z d Y (pc + 2) k) : ab_Sd G Z d Y pc (o_lstore i k) := by
  refine h.step fun lv st w r hr => ?_
  unfold o_lstore at hr
  split at hr
  · rename_i x st'
    exact ⟨_, st', w, hr, ab_le.rf, fun p l e R s m args below meth c Q n0 t0 N T hX hR hn ht hN hT kk ls H locs hl ha hS => lv_lstore hX.1 hX.2.1 hd hl hL rfl (fun ls' hl' => kk ls' H locs (ab_has_sub hl' ab_st2_sub) ha hS)⟩
  · cases hr
theorem sn_ladd (hd : decode Y.1 pc = .ok (.ladd, 1)) (h : ab_Sd G Z d Y (pc + 1) k) : ab_Sd G Z d Y pc (o_lbin (fun x y => x + y) k) := by
  refine h.step fun lv st w r hr => ?_
  unfold o_lbin at hr
  split at hr
  · rename_i y x st'
    exact ⟨lv, _, w, hr, ab_le.rf, fun p l e R s m args below meth c Q n0 t0 N T hX hR hn ht hN hT kk ls H locs hl ha hS => lv_ladd hX.1 hX.2.1 hd (kk ls H locs hl ha hS)⟩
  · cases hr
theorem sn_lsub (hd : decode Y.1 pc = .ok (.lsub, 1)) (h : ab_Sd G Z d Y (pc + 1) k) : ab_Sd G Z d Y pc (o_lbin (fun x y => x - y) k) := by
  refine h.step fun lv st w r hr => ?_
  unfold o_lbin at hr
  split at hr
  · rename_i y x st'
    exact ⟨lv, _, w, hr, ab_le.rf, fun p l e R s m args below meth c Q n0 t0 N T hX hR hn ht hN hT kk ls H locs hl ha hS => lv_lsub hX.1 hX.2.1 hd (kk ls H locs hl ha hS)⟩
  · cases hr
theorem sn_lneg (hd : decode Y.1 pc = .ok (.lneg, 1)) (h : ab_Sd G Z d Y (pc + 1) k) : ab_Sd G Z d Y pc (o_lneg k) := by
  refine h.step fun lv st w r hr => ?_
  unfold o_lneg at hr
  split at hr
  · rename_i x st'
    exact ⟨lv, _, w, hr, ab_le.rf, fun p l e R s m args below meth c Q n0 t0 N T hX hR hn ht hN hT kk ls H locs hl ha hS => lv_lneg hX.1 hX.2.1 hd (kk ls H locs hl ha hS)⟩
  · cases hr
theorem sn_i2l (hd : decode Y.1 pc = .ok (.i2l, 1)) (h : ab_Sd G Z d Y (pc + 1) k) : ab_Sd G Z d Y pc (o_i2l k) := by
  refine h.step fun lv st w r hr => ?_
  unfold o_i2l at hr
  split at hr
  · rename_i x st'
    exact ⟨lv, _, w, hr, ab_le.rf, fun p l e R s m args below meth c Q n0 t0 N T hX hR hn ht hN hT kk ls H locs hl ha hS => lv_i2l hX.1 hX.2.1 hd rfl (kk ls H locs hl ha hS)⟩
  · cases hr
theorem sn_l2i (hd : decode Y.1 pc = .ok (.l2i, 1)) (h : ab_Sd G Z d Y (pc + 1) k) : ab_Sd G Z d Y pc (o_l2i k) := by
  refine h.step fun lv st w r hr => ?_
  unfold o_l2i at hr
  split at hr
  · rename_i x st'
    exact ⟨lv, _, w, hr, ab_le.rf, fun p l e R s m args below meth c Q n0 t0 N T hX hR hn ht hN hT kk ls H locs hl ha hS => lv_l2i hX.1 hX.2.1 hd rfl (kk ls H locs hl ha hS)⟩
  · cases hr
theorem sn_lcmp (hd : decode Y.1 pc = .ok (.lcmp, 1)) (h : ab_Sd G Z d Y (pc + 1) k) : ab_Sd G Z d Y pc (o_lcmp k) := by
  refine h.step fun lv st w r hr => ?_
  unfold o_lcmp at hr
  split at hr
  · rename_i y x st'
    exact ⟨lv, _, w, hr, ab_le.rf, fun p l e R s m args below meth c Q n0 t0 N T hX hR hn ht hN hT kk ls H locs hl ha hS => W.lcmp hX.1 hX.2.1 hd (kk ls H locs hl ha hS)⟩
  · cases hr
end ABLO
