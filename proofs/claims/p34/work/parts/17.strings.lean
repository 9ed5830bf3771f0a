/-! ===== strings that are given: their fields, their bytes; a static that is a reference or null ===== -/
def ab_isS (a : Nat) : Bool := Nat.ble 1000002 a && Nat.blt a 1000009
def ab_isB (a : Nat) : Bool := Nat.ble 1000012 a && Nat.blt a 1000019
theorem ab_isS_j {a : Nat} (h : ab_isS a = true) : ∃ j : Nat, j < 7 ∧ a = 1000000 + (2 + j) := by
  simp only [ab_isS, Bool.and_eq_true, Nat.ble_eq, Nat.blt_eq] at h
  exact ⟨a - 1000002, by omega, by omega⟩
theorem ab_isB_j {a : Nat} (h : ab_isB a = true) : ∃ j : Nat, j < 7 ∧ a = 1000000 + (12 + j) ∧ Nat.sub a 1000012 = j := by
  simp only [ab_isB, Bool.and_eq_true, Nat.ble_eq, Nat.blt_eq] at h
  exact ⟨a - 1000012, by omega, by omega, rfl⟩
def o_sval (k : ab_K) : ab_K := fun lv st w => match st with
  | .ref a :: st' => if ab_isS a = true then k lv (.ref (Nat.add a 10) :: st') w else none
  | _ => none
def o_scod (k : ab_K) : ab_K := fun lv st w => match st with
  | .ref a :: st' => if ab_isS a = true then k lv (.int 0 :: st') w else none
  | _ => none
def o_sbal (k : ab_K) : ab_K := fun lv st w => match st with
  | .int i :: .ref a :: st' => if ab_isB a = true ∧ ¬ i < 0 ∧ i.toNatClampNeg < ab_slen.getD (Nat.sub a 1000012) 0 then k lv (.int ((ab_sbyt.getD (Nat.sub a 1000012) []).getD i.toNatClampNeg 0) :: st') w else none
  | _ => none
def o_sblen (k : ab_K) : ab_K := fun lv st w => match st with
  | .ref a :: st' => if ab_isB a = true then k lv (.int (Int32.ofNat (ab_slen.getD (Nat.sub a 1000012) 0)) :: st') w else none
  | _ => none
abbrev ab_vkG (G : ab_G) (U : State) : Prop := vk_S 7 ab_slen ab_sbyt (fun j => G.2.2 (2 + j)) (fun j => G.2.2 (12 + j)) (ab_A G) U U.heap
section ABST
variable {G : ab_G} {Z : State → Prop} {d : Nat} {Y : ab_Y} {pc : Nat} {k : ab_K}
theorem sn_sval {index : Nat} (hd : decode Y.1 pc = .ok (.getfield index, 3)) (hw : Cond.fieldLink Y.2.1 index "java/lang/String" "value" "[B" ∈ ab_GW) (hz : ∀ U, Z U → ab_vkG G U) (h : ab_Sd G Z d Y (pc + 3) k) : ab_Sd G Z d Y pc (o_sval k) := by
  refine h.step fun lv st w r hr => ?_
  unfold o_sval at hr
  split at hr
  · rename_i a st'
    split at hr
    · rename_i ha2
      refine ⟨lv, _, w, hr, ab_le.rf, fun p l e R s m args below meth c Q n0 t0 N T hX hR hn ht hN hT kk ls H locs hl ha hS => ?_⟩
      show W p l e R s m args below meth c H locs _ _ Q (F0 m pc ls (.ref (ab_ad G a) :: st'.map (ab_cv G)))
      obtain ⟨j, hj, rfl⟩ := ab_isS_j ha2
      have k2 := kk ls H locs hl ha hS
      change W p l e R s m args below meth c H locs _ _ Q (F0 m (pc + 3) ls (.ref (ab_ad G (Nat.add (1000000 + (2 + j)) 10)) :: st'.map (ab_cv G))) at k2
      have e9 : Nat.add (1000000 + (2 + j)) 10 = 1000000 + (12 + j) := by show 1000000 + (2 + j) + 10 = 1000000 + (12 + j); omega
      rw [e9, ab_ad_ext] at k2
      rw [ab_ad_ext]
      exact vk_getf hX.1 hX.2.1 ((hz s hX.2.2.2.2.2.2.1).1 j hj).2.2.1 hS hX.2.2.2.1 (hX.2.2.2.2.1 _ hw) (fun _ q => q) hd k2
    · cases hr
  · cases hr
theorem sn_scod {index : Nat} (hd : decode Y.1 pc = .ok (.getfield index, 3)) (hw : Cond.fieldLink Y.2.1 index "java/lang/String" "coder" "B" ∈ ab_GW) (hz : ∀ U, Z U → ab_vkG G U) (h : ab_Sd G Z d Y (pc + 3) k) : ab_Sd G Z d Y pc (o_scod k) := by
  refine h.step fun lv st w r hr => ?_
  unfold o_scod at hr
  split at hr
  · rename_i a st'
    split at hr
    · rename_i ha2
      refine ⟨lv, _, w, hr, ab_le.rf, fun p l e R s m args below meth c Q n0 t0 N T hX hR hn ht hN hT kk ls H locs hl ha hS => ?_⟩
      show W p l e R s m args below meth c H locs _ _ Q (F0 m pc ls (.ref (ab_ad G a) :: st'.map (ab_cv G)))
      obtain ⟨j, hj, rfl⟩ := ab_isS_j ha2
      rw [ab_ad_ext]
      exact vk_getf hX.1 hX.2.1 ((hz s hX.2.2.2.2.2.2.1).1 j hj).2.1 hS hX.2.2.2.1 (hX.2.2.2.2.1 _ hw) (fun _ q => q) hd (kk ls H locs hl ha hS)
    · cases hr
  · cases hr
theorem sn_sbal (hd : decode Y.1 pc = .ok (.baload, 1)) (hz : ∀ U, Z U → ab_vkG G U) (h : ab_Sd G Z d Y (pc + 1) k) : ab_Sd G Z d Y pc (o_sbal k) := by
  refine h.step fun lv st w r hr => ?_
  unfold o_sbal at hr
  split at hr
  · rename_i i a st'
    split at hr
    · rename_i ha2
      refine ⟨lv, _, w, hr, ab_le.rf, fun p l e R s m args below meth c Q n0 t0 N T hX hR hn ht hN hT kk ls H locs hl ha hS => ?_⟩
      show W p l e R s m args below meth c H locs _ _ Q (F0 m pc ls (.int i :: .ref (ab_ad G a) :: st'.map (ab_cv G)))
      obtain ⟨ha3, ha4, ha5⟩ := ha2
      obtain ⟨j, hj, rfl, e9⟩ := ab_isB_j ha3
      rw [e9] at ha5
      have k2 := kk ls H locs hl ha hS
      rw [e9] at k2
      rw [ab_ad_ext]
      exact va_tb hX.1 hX.2.1 ((hz s hX.2.2.2.2.2.2.1).1 j hj).2.2.2 hS (ab_in ha4 ha5) rfl hd k2
    · cases hr
  · cases hr
theorem sn_sblen (hd : decode Y.1 pc = .ok (.arraylength, 1)) (hz : ∀ U, Z U → ab_vkG G U) (h : ab_Sd G Z d Y (pc + 1) k) : ab_Sd G Z d Y pc (o_sblen k) := by
  refine h.step fun lv st w r hr => ?_
  unfold o_sblen at hr
  split at hr
  · rename_i a st'
    split at hr
    · rename_i ha2
      refine ⟨lv, _, w, hr, ab_le.rf, fun p l e R s m args below meth c Q n0 t0 N T hX hR hn ht hN hT kk ls H locs hl ha hS => ?_⟩
      show W p l e R s m args below meth c H locs _ _ Q (F0 m pc ls (.ref (ab_ad G a) :: st'.map (ab_cv G)))
      obtain ⟨j, hj, rfl, e9⟩ := ab_isB_j ha2
      have k2 := kk ls H locs hl ha hS
      rw [e9] at k2
      rw [ab_ad_ext]
      exact va_tlen hX.1 hX.2.1 ((hz s hX.2.2.2.2.2.2.1).1 j hj).2.2.2 hS rfl hd k2
    · cases hr
  · cases hr
/-- a static that holds an int -/
theorem sn_getsI {index : Nat} {C n ds : String} {v : Int32} (hd : decode Y.1 pc = .ok (.getstatic index, 3)) (hw : Cond.fieldLink Y.2.1 index C n ds ∈ ab_GW) (hz : ∀ U, Z U → va_Z C n ds (.int v) (ab_A G) U U.heap) (h : ab_Sd G Z d Y (pc + 3) k) : ab_Sd G Z d Y pc (o_push (.int v) k) :=
  h.step fun lv st w r hr => ⟨lv, .int v :: st, w, hr, ab_le.rf, fun p l e R s m args below meth c Q n0 t0 N T hX hR hn ht hN hT kk ls H locs hl ha hS => va_gets hX.1 hX.2.1 (hz s hX.2.2.2.2.2.2.1) hS hX.2.2.2.1 (hX.2.2.2.2.1 _ hw) (fun _ q => q) hd (kk ls H locs hl ha hS)⟩
end ABST
/-- calls on a given string -/
def o_callX (cal : ab_F) (i n : Nat) (k : ab_K) : ab_K := fun lv st w => match st.drop n with
  | .ref b :: rest => if ab_isS b = true ∧ ab_cl rest = true then (match cal i (.ref b :: (st.take n).reverse) w with
      | some (v, w') => k lv (v.toList ++ rest) w'
      | none => none) else none
  | _ => none
section ABXC
variable {G : ab_G} {Z : State → Prop} {d : Nat} {Y : ab_Y} {pc : Nat} {k : ab_K} {M : Nat → ab_M} {cal : ab_F}
theorem sn_callX {i n idx : Nat} (hd : decode Y.1 pc = .ok (.invokevirtual idx, 3)) (hz : ∀ U, Z U → ab_vkG G U) (hl : Cond.methodLink Y.2.1 idx (M i).1 ∈ ab_GW) (hin : Cond.instanceMethod (M i).1 ∈ ab_GW) (hse : Cond.selects "java/lang/String" (M i).1 (M i).1 ∈ ab_GW) (hii : Cond.initialized (M i).1.cls ∈ ab_GW) (hcd : Cond.code (M i).1 (M i).2.1 (M i).2.2.1 (M i).2.2.2 ∈ ab_GW)
    (hy : (M i).1.cls ≠ "java/lang/invoke/MethodHandle" ∧ (M i).1.cls ≠ "java/lang/invoke/VarHandle" ∧ (parseMethodDescriptor (M i).1.desc).map (fun d => d.parameters.length) = some n) (hml : (M i).2.2.1 ≤ 45) (hcs : ab_CS G Z M cal d) (h : ab_Sd G Z (d + 1) Y (pc + 3) k) : ab_Sd G Z (d + 1) Y pc (o_callX cal i n k) := by
  refine h.step fun lv st w r hr => ?_
  unfold o_callX at hr
  split at hr
  · rename_i b rest hdr
    split at hr
    · rename_i hcl
      split at hr
      · rename_i v w' hc
        obtain ⟨hle, hM⟩ := hcs _ _ _ _ _ hc
        obtain ⟨j, hj, ej⟩ := ab_isS_j hcl.1
        refine ⟨lv, _, w', hr, hle, fun p l e R s m args below meth c Q n0 t0 N T hX hR hn ht hN hT kk ls H locs hlv ha hS => ?_⟩
        exact ab_back hn ht hle hlv hS kk (va_runV (b := ab_ad G b) (As := (st.take n).reverse.map (ab_cv G)) (rest := rest.map (ab_cv G)) ⟨hX.1, hX.2.1, hX.2.2.1, hX.2.2.2.1, hX.2.2.2.2.1⟩ (hM l) ⟨callB_of n hX.2.2.2.2.1 (ab_goodM hcd) rfl rfl rfl (hX.2.2.2.2.1 _ hii) (hX.2.2.2.2.1 _ hl) hy (ab_rmR hR hml), hX.2.2.2.2.1 _ hin, hX.2.2.2.2.1 _ hse⟩ ⟨ab_Pc_blind hX.2.2.2.2.2.2.2.2.2.2.2 _ _, by rw [ej, ab_ad_ext]; exact vk_recv (i := j) (hz s hX.2.2.2.2.2.2.1) hj hS, ab_PcU (As := .ref b :: (st.take n).reverse) hX ha hS⟩ rfl (ab_lenV hdr) hlv.1 (ab_stkV hdr) (lv_room (ab_cl_le hcl.2)) hd (ab_fits hR hn ht hle hN hT))
      · cases hr
    · cases hr
  · cases hr
theorem sq_callX {i n idx : Nat} {Mi : ab_M} (hM : M i = Mi) (hcs : ab_CS G Z M cal d) (hd : decode Y.1 pc = .ok (.invokevirtual idx, 3)) (hz : ∀ U, Z U → ab_vkG G U) (hl : Cond.methodLink Y.2.1 idx Mi.1 ∈ ab_GW) (hin : Cond.instanceMethod Mi.1 ∈ ab_GW) (hse : Cond.selects "java/lang/String" Mi.1 Mi.1 ∈ ab_GW) (hii : Cond.initialized Mi.1.cls ∈ ab_GW) (hcd : Cond.code Mi.1 Mi.2.1 Mi.2.2.1 Mi.2.2.2 ∈ ab_GW)
    (hy : Mi.1.cls ≠ "java/lang/invoke/MethodHandle" ∧ Mi.1.cls ≠ "java/lang/invoke/VarHandle" ∧ (parseMethodDescriptor Mi.1.desc).map (fun d => d.parameters.length) = some n) (hml : Mi.2.2.1 ≤ 45) (h : ab_Sd G Z (d + 1) Y (pc + 3) k) : ab_Sd G Z (d + 1) Y pc (o_callX cal i n k) := by
  subst hM; exact sn_callX hd hz hl hin hse hii hcd hy hml hcs h
end ABXC
