/-! ===== the instructions ===== -/
def o_push (v : Value) (k : ab_K) : ab_K := fun lv st w => k lv (v :: st) w
def o_iload (i : Nat) (k : ab_K) : ab_K := fun lv st w => match lv[i]? with
  | some (some (.int x)) => k lv (.int x :: st) w
  | _ => none
def o_lload (i : Nat) (k : ab_K) : ab_K := fun lv st w => match lv[i]? with
  | some (some (.long x)) => k lv (.long x :: st) w
  | _ => none
def o_aload (i : Nat) (k : ab_K) : ab_K := fun lv st w => match lv[i]? with
  | some (some (.ref a)) => k lv (.ref a :: st) w
  | some (some .null) => k lv (.null :: st) w
  | _ => none
def o_istore (i : Nat) (k : ab_K) : ab_K := fun lv st w => match st with
  | .int x :: st' => k (ab_st1 lv i (.int x)) st' w
  | _ => none
def o_astore (i : Nat) (k : ab_K) : ab_K := fun lv st w => match st with
  | .ref a :: st' => k (ab_st1 lv i (.ref a)) st' w
  | .null :: st' => k (ab_st1 lv i .null) st' w
  | _ => none
def o_iinc (i : Nat) (n : Int32) (k : ab_K) : ab_K := fun lv st w => match lv[i]? with
  | some (some (.int x)) => k (ab_st1 lv i (.int (x + n))) st w
  | _ => none
def o_bin (f : Int32 → Int32 → Int32) (k : ab_K) : ab_K := fun lv st w => match st with
  | .int y :: .int x :: st' => k lv (.int (f x y) :: st') w
  | _ => none
def o_div (f : Int32 → Int32 → Int32) (k : ab_K) : ab_K := fun lv st w => match st with
  | .int y :: .int x :: st' => if y = 0 then none else k lv (.int (f x y) :: st') w
  | _ => none
def o_un (f : Int32 → Int32) (k : ab_K) : ab_K := fun lv st w => match st with
  | .int x :: st' => k lv (.int (f x) :: st') w
  | _ => none
def o_dup (k : ab_K) : ab_K := fun lv st w => match st with
  | v :: st' => if v.category = 1 then k lv (v :: v :: st') w else none
  | _ => none
def o_dup2 (k : ab_K) : ab_K := fun lv st w => match st with
  | v :: u :: st' => if v.category = 1 ∧ u.category = 1 then k lv (v :: u :: v :: u :: st') w else none
  | _ => none
def o_pop (k : ab_K) : ab_K := fun lv st w => match st with
  | v :: st' => if v.category = 1 then k lv st' w else none
  | _ => none
def o_if (q : Int32 → Bool) (tg : Nat) (k : ab_K) : ab_K := fun lv st w => match st with
  | .int x :: st' => if q x = true then some (.inl (tg, lv, st', w)) else k lv st' w
  | _ => none
def o_cmp (q : Int32 → Int32 → Bool) (tg : Nat) (k : ab_K) : ab_K := fun lv st w => match st with
  | .int y :: .int x :: st' => if q x y = true then some (.inl (tg, lv, st', w)) else k lv st' w
  | _ => none
def o_ifnull (tg : Nat) (k : ab_K) : ab_K := fun lv st w => match st with
  | .null :: st' => some (.inl (tg, lv, st', w))
  | .ref _ :: st' => k lv st' w
  | _ => none
def o_ifnonnull (tg : Nat) (k : ab_K) : ab_K := fun lv st w => match st with
  | .ref _ :: st' => some (.inl (tg, lv, st', w))
  | .null :: st' => k lv st' w
  | _ => none
def o_goto (tg : Nat) : ab_K := fun lv st w => some (.inl (tg, lv, st, w))
def o_sw (f : Int32 → Nat) : ab_K := fun lv st w => match st with
  | .int x :: st' => some (.inl (f x, lv, st', w))
  | _ => none
def o_ret (rt : Option FieldType) : ab_K := fun _ st w => match st with
  | [] => if ab_ok rt none = true then some (.inr (none, w)) else none
  | [v] => if ab_ok rt (some v) = true then some (.inr (some v, w)) else none
  | _ => none
section ABO
variable {G : ab_G} {Z : State → Prop} {d : Nat} {Y : ab_Y} {pc : Nat} {k : ab_K}
theorem sn_iconst {n : Int} {v : Int32} (hd : decode Y.1 pc = .ok (.iconst n, 1)) (hv : Int32.ofInt n = v) (h : ab_Sd G Z d Y (pc + 1) k) : ab_Sd G Z d Y pc (o_push (.int v) k) :=
  h.step fun lv st w r hr => ⟨lv, .int v :: st, w, hr, ab_le.rf, fun p l e R s m args below meth c Q n0 t0 N T hX hR hn ht hN hT kk ls H locs hl ha hS => lv_iconst hX.1 hX.2.1 hd hv (kk ls H locs hl ha hS)⟩
theorem sn_bipush {n : Int} {v : Int32} (hd : decode Y.1 pc = .ok (.bipush n, 2)) (hv : (Int8.ofInt n).toInt32 = v) (h : ab_Sd G Z d Y (pc + 2) k) : ab_Sd G Z d Y pc (o_push (.int v) k) :=
  h.step fun lv st w r hr => ⟨lv, .int v :: st, w, hr, ab_le.rf, fun p l e R s m args below meth c Q n0 t0 N T hX hR hn ht hN hT kk ls H locs hl ha hS => lv_bipush hX.1 hX.2.1 hd hv (kk ls H locs hl ha hS)⟩
theorem sn_sipush {n : Int} {v : Int32} (hd : decode Y.1 pc = .ok (.sipush n, 3)) (hv : (Int16.ofInt n).toInt32 = v) (h : ab_Sd G Z d Y (pc + 3) k) : ab_Sd G Z d Y pc (o_push (.int v) k) :=
  h.step fun lv st w r hr => ⟨lv, .int v :: st, w, hr, ab_le.rf, fun p l e R s m args below meth c Q n0 t0 N T hX hR hn ht hN hT kk ls H locs hl ha hS => lv_sipush hX.1 hX.2.1 hd hv (kk ls H locs hl ha hS)⟩
theorem sn_null (hd : decode Y.1 pc = .ok (.aconst_null, 1)) (h : ab_Sd G Z d Y (pc + 1) k) : ab_Sd G Z d Y pc (o_push .null k) :=
  h.step fun lv st w r hr => ⟨lv, .null :: st, w, hr, ab_le.rf, fun p l e R s m args below meth c Q n0 t0 N T hX hR hn ht hN hT kk ls H locs hl ha hS => lv_null hX.1 hX.2.1 hd (kk ls H locs hl ha hS)⟩
theorem sn_lconst {n : Fin 2} {v : Int64} (hd : decode Y.1 pc = .ok (.lconst n, 1)) (hv : Int64.ofNat (n : Nat) = v) (h : ab_Sd G Z d Y (pc + 1) k) : ab_Sd G Z d Y pc (o_push (.long v) k) :=
  h.step fun lv st w r hr => ⟨lv, .long v :: st, w, hr, ab_le.rf, fun p l e R s m args below meth c Q n0 t0 N T hX hR hn ht hN hT kk ls H locs hl ha hS => lv_lconst hX.1 hX.2.1 hd hv (kk ls H locs hl ha hS)⟩
theorem sn_ldc {i : Nat} {v : Int32} (hd : decode Y.1 pc = .ok (.ldc i, 2)) (hw : Cond.constant Y.2.1 i v ∈ ab_GW) (h : ab_Sd G Z d Y (pc + 2) k) : ab_Sd G Z d Y pc (o_push (.int v) k) :=
  h.step fun lv st w r hr => ⟨lv, .int v :: st, w, hr, ab_le.rf, fun p l e R s m args below meth c Q n0 t0 N T hX hR hn ht hN hT kk ls H locs hl ha hS => lv_ldc hX.1 hX.2.1 hX.2.2.2.1 (hX.2.2.2.2.1 _ hw) hd (kk ls H locs hl ha hS)⟩
theorem sn_ldcw {i : Nat} {v : Int32} (hd : decode Y.1 pc = .ok (.ldc_w i, 3)) (hw : Cond.constant Y.2.1 i v ∈ ab_GW) (h : ab_Sd G Z d Y (pc + 3) k) : ab_Sd G Z d Y pc (o_push (.int v) k) :=
  h.step fun lv st w r hr => ⟨lv, .int v :: st, w, hr, ab_le.rf, fun p l e R s m args below meth c Q n0 t0 N T hX hR hn ht hN hT kk ls H locs hl ha hS => lv_ldcw hX.1 hX.2.1 hX.2.2.2.1 (hX.2.2.2.2.1 _ hw) hd (kk ls H locs hl ha hS)⟩
/-- a text constant: an outside thing -/
theorem sn_ldcS {i j : Nat} {tx : String} (hd : decode Y.1 pc = .ok (.ldc i, 2)) (hz : ∀ U, Z U → vk_R Y.2.1 i tx (G.2.2 j) U) (h : ab_Sd G Z d Y (pc + 2) k) : ab_Sd G Z d Y pc (o_push (.ref (1000000 + j)) k) := by
  refine h.step fun lv st w r hr => ⟨lv, .ref (1000000 + j) :: st, w, hr, ab_le.rf, fun p l e R s m args below meth c Q n0 t0 N T hX hR hn ht hN hT kk ls H locs hl ha hS => ?_⟩
  have e1 : ab_cv G (.ref (1000000 + j)) = .ref (G.2.2 j) := by
    show Value.ref (ab_ad G (1000000 + j)) = _
    unfold ab_ad
    rw [if_neg (by omega), Nat.add_sub_cancel_left]
  have h2 := kk ls H locs hl ha hS
  rw [List.map_cons, e1] at h2
  exact va_ldcS hX.1 hX.2.1 hX.2.2.2.1 (hz s hX.2.2.2.2.2.2.1) hd h2
theorem sn_iload_n {n : Fin 4} {i : Nat} (hd : decode Y.1 pc = .ok (.iload_n n, 1)) (hi : (n : Nat) = i) (h : ab_Sd G Z d Y (pc + 1) k) : ab_Sd G Z d Y pc (o_iload i k) := by
  refine h.step fun lv st w r hr => ?_
  unfold o_iload at hr
  split at hr
  · rename_i x hx
    exact ⟨lv, .int x :: st, w, hr, ab_le.rf, fun p l e R s m args below meth c Q n0 t0 N T hX hR hn ht hN hT kk ls H locs hl ha hS => lv_iload_n hX.1 hX.2.1 hd hi (ab_has_get hl hx) (kk ls H locs hl ha hS)⟩
  · cases hr
theorem sn_iload {i : Nat} (hd : decode Y.1 pc = .ok (.iload i, 2)) (h : ab_Sd G Z d Y (pc + 2) k) : ab_Sd G Z d Y pc (o_iload i k) := by
  refine h.step fun lv st w r hr => ?_
  unfold o_iload at hr
  split at hr
  · rename_i x hx
    exact ⟨lv, .int x :: st, w, hr, ab_le.rf, fun p l e R s m args below meth c Q n0 t0 N T hX hR hn ht hN hT kk ls H locs hl ha hS => lv_iload hX.1 hX.2.1 hd (ab_has_get hl hx) (kk ls H locs hl ha hS)⟩
  · cases hr
theorem sn_aload_n {n : Fin 4} {i : Nat} (hd : decode Y.1 pc = .ok (.aload_n n, 1)) (hi : (n : Nat) = i) (h : ab_Sd G Z d Y (pc + 1) k) : ab_Sd G Z d Y pc (o_aload i k) := by
  refine h.step fun lv st w r hr => ?_
  unfold o_aload at hr
  split at hr
  · rename_i x hx
    exact ⟨lv, .ref x :: st, w, hr, ab_le.rf, fun p l e R s m args below meth c Q n0 t0 N T hX hR hn ht hN hT kk ls H locs hl ha hS => lv_aload_n hX.1 hX.2.1 hd hi (ab_has_get hl hx) (kk ls H locs hl ha hS)⟩
  · rename_i hx
    exact ⟨lv, .null :: st, w, hr, ab_le.rf, fun p l e R s m args below meth c Q n0 t0 N T hX hR hn ht hN hT kk ls H locs hl ha hS => lv_aload_nN hX.1 hX.2.1 hd hi (ab_has_get hl hx) (kk ls H locs hl ha hS)⟩
  · cases hr
theorem sn_aload {i : Nat} (hd : decode Y.1 pc = .ok (.aload i, 2)) (h : ab_Sd G Z d Y (pc + 2) k) : ab_Sd G Z d Y pc (o_aload i k) := by
  refine h.step fun lv st w r hr => ?_
  unfold o_aload at hr
  split at hr
  · rename_i x hx
    exact ⟨lv, .ref x :: st, w, hr, ab_le.rf, fun p l e R s m args below meth c Q n0 t0 N T hX hR hn ht hN hT kk ls H locs hl ha hS => lv_aload hX.1 hX.2.1 hd (ab_has_get hl hx) (kk ls H locs hl ha hS)⟩
  · rename_i hx
    exact ⟨lv, .null :: st, w, hr, ab_le.rf, fun p l e R s m args below meth c Q n0 t0 N T hX hR hn ht hN hT kk ls H locs hl ha hS => lv_aloadN hX.1 hX.2.1 hd (ab_has_get hl hx) (kk ls H locs hl ha hS)⟩
  · cases hr
theorem sn_istore_n {n : Fin 4} {i : Nat} (hd : decode Y.1 pc = .ok (.istore_n n, 1)) (hi : (n : Nat) = i) (hL : i < Y.2.2.1) (h : ab_Sd G Z d Y (pc + 1) k) : ab_Sd G Z d Y pc (o_istore i k) := by
  refine h.step fun lv st w r hr => ?_
  unfold o_istore at hr
  split at hr
  · rename_i x st'
    exact ⟨_, st', w, hr, ab_le.rf, fun p l e R s m args below meth c Q n0 t0 N T hX hR hn ht hN hT kk ls H locs hl ha hS => lv_istore_n hX.1 hX.2.1 hd hi hl hL rfl (fun ls' hl' => kk ls' H locs (ab_has_sub hl' ab_st1_sub) ha hS)⟩
  · cases hr
theorem sn_istore {i : Nat} (hd : decode Y.1 pc = .ok (.istore i, 2)) (hL : i < Y.2.2.1) (h : ab_Sd G Z d Y (pc + 2) k) : ab_Sd G Z d Y pc (o_istore i k) := by
  refine h.step fun lv st w r hr => ?_
  unfold o_istore at hr
  split at hr
  · rename_i x st'
    exact ⟨_, st', w, hr, ab_le.rf, fun p l e R s m args below meth c Q n0 t0 N T hX hR hn ht hN hT kk ls H locs hl ha hS => lv_istore hX.1 hX.2.1 hd hl hL rfl (fun ls' hl' => kk ls' H locs (ab_has_sub hl' ab_st1_sub) ha hS)⟩
  · cases hr
theorem sn_astore_n {n : Fin 4} {i : Nat} (hd : decode Y.1 pc = .ok (.astore_n n, 1)) (hi : (n : Nat) = i) (hL : i < Y.2.2.1) (h : ab_Sd G Z d Y (pc + 1) k) : ab_Sd G Z d Y pc (o_astore i k) := by
  refine h.step fun lv st w r hr => ?_
  unfold o_astore at hr
  split at hr
  · rename_i x st'
    exact ⟨_, st', w, hr, ab_le.rf, fun p l e R s m args below meth c Q n0 t0 N T hX hR hn ht hN hT kk ls H locs hl ha hS => lv_astore_n hX.1 hX.2.1 hd hi hl hL rfl (fun ls' hl' => kk ls' H locs (ab_has_sub hl' ab_st1_sub) ha hS)⟩
  · rename_i st'
    exact ⟨_, st', w, hr, ab_le.rf, fun p l e R s m args below meth c Q n0 t0 N T hX hR hn ht hN hT kk ls H locs hl ha hS => lv_astore_nN hX.1 hX.2.1 hd hi hl hL rfl (fun ls' hl' => kk ls' H locs (ab_has_sub hl' ab_st1_sub) ha hS)⟩
  · cases hr
theorem sn_astore {i : Nat} (hd : decode Y.1 pc = .ok (.astore i, 2)) (hL : i < Y.2.2.1) (h : ab_Sd G Z d Y (pc + 2) k) : ab_Sd G Z d Y pc (o_astore i k) := by
  refine h.step fun lv st w r hr => ?_
  unfold o_astore at hr
  split at hr
  · rename_i x st'
    exact ⟨_, st', w, hr, ab_le.rf, fun p l e R s m args below meth c Q n0 t0 N T hX hR hn ht hN hT kk ls H locs hl ha hS => lv_astore hX.1 hX.2.1 hd hl hL rfl (fun ls' hl' => kk ls' H locs (ab_has_sub hl' ab_st1_sub) ha hS)⟩
  · rename_i st'
    exact ⟨_, st', w, hr, ab_le.rf, fun p l e R s m args below meth c Q n0 t0 N T hX hR hn ht hN hT kk ls H locs hl ha hS => lv_astoreN hX.1 hX.2.1 hd hl hL rfl (fun ls' hl' => kk ls' H locs (ab_has_sub hl' ab_st1_sub) ha hS)⟩
  · cases hr
theorem sn_iinc {i : Nat} {n : Int} {v : Int32} (hd : decode Y.1 pc = .ok (.iinc i n, 3)) (hv : Int32.ofInt n = v) (hL : i < Y.2.2.1) (h : ab_Sd G Z d Y (pc + 3) k) : ab_Sd G Z d Y pc (o_iinc i v k) := by
  refine h.step fun lv st w r hr => ?_
  unfold o_iinc at hr
  split at hr
  · rename_i x hx
    subst hv
    refine ⟨_, st, w, hr, ab_le.rf, fun p l e R s m args below meth c Q n0 t0 N T hX hR hn ht hN hT kk ls H locs hl ha hS => ?_⟩
    obtain ⟨j, hj⟩ := List.getElem?_of_mem (ab_lp_mem (G := G) (q := (i, .int x)) |>.mpr ⟨_, hx, rfl⟩)
    exact lv_iinc hX.1 hX.2.1 hd hl hj rfl hL rfl (fun ls' hl' => kk ls' H locs (ab_has_sub hl' ab_st1_sub) ha hS)
  · cases hr
end ABO
