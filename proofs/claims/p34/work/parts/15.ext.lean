/-! ===== what is outside: the script, a static row, texts; the words that are handed on by the state ===== -/
def o_xald (j : Nat) (xs : List Int32) (k : ab_K) : ab_K := fun lv st w => match st with
  | .int i :: .ref a :: st' => if a = 1000000 + j ∧ ¬ i < 0 then (match xs[i.toNatClampNeg]? with
    | some x => k lv (.int x :: st') w
    | none => none) else none
  | _ => none
def o_xlen (j : Nat) (xs : List Int32) (k : ab_K) : ab_K := fun lv st w => match st with
  | .ref a :: st' => if a = 1000000 + j then k lv (.int (Int32.ofNat xs.length) :: st') w else none
  | _ => none
abbrev ab_Xo (G : ab_G) (j : Nat) (xs : List Int32) (U : State) : Prop := va_X (G.2.2 j) xs.length (fun j => xs.getD j 0) U U.heap ∧ G.2.2 j < G.2.1
section ABX
variable {G : ab_G} {Z : State → Prop} {d : Nat} {Y : ab_Y} {pc : Nat} {k : ab_K}
theorem ab_ad_ext (G : ab_G) (j : Nat) : ab_ad G (1000000 + j) = G.2.2 j := by
  unfold ab_ad
  rw [if_neg (by omega), Nat.add_sub_cancel_left]
theorem sn_xald {j : Nat} {xs : List Int32} (hd : decode Y.1 pc = .ok (.iaload, 1)) (hz : ∀ U, Z U → ab_Xo G j xs U) (h : ab_Sd G Z d Y (pc + 1) k) : ab_Sd G Z d Y pc (o_xald j xs k) := by
  refine h.step fun lv st w r hr => ?_
  unfold o_xald at hr
  split at hr
  · rename_i i a st'
    split at hr
    · rename_i hc
      obtain ⟨rfl, hi⟩ := hc
      split at hr
      · rename_i x hv
        refine ⟨lv, .int x :: st', w, hr, ab_le.rf, fun p l e R s m args below meth c Q n0 t0 N T hX hR hn ht hN hT kk ls H locs hl ha hS => ?_⟩
        show W p l e R s m args below meth c H locs _ _ Q (F0 m pc ls (.int i :: .ref (ab_ad G (1000000 + j)) :: st'.map (ab_cv G)))
        rw [ab_ad_ext]
        obtain ⟨hx1, hx2⟩ := hz s hX.2.2.2.2.2.2.1
        have hsz := hX.2.2.2.2.2.2.2.1
        refine va_sld hX.1 hX.2.1 hx1 (by omega) (by show ¬ G.2.1 ≤ G.2.2 j; omega) hS (ab_in hi (List.getElem?_eq_some_iff.mp hv).1) hd ?_
        rw [ab_getD hv]
        exact kk ls H locs hl ha hS
      · cases hr
    · cases hr
  · cases hr
/-- a row that the Statement gives, of which only the first places are known -/
abbrev ab_Xt (G : ab_G) (j : Nat) (xs : List Int32) (U : State) : Prop := va_T .int (G.2.2 j) xs.length (fun j => .int (xs.getD j 0)) (ab_A G) U U.heap
theorem sn_xaldT {j : Nat} {xs : List Int32} (hd : decode Y.1 pc = .ok (.iaload, 1)) (hz : ∀ U, Z U → ab_Xt G j xs U) (h : ab_Sd G Z d Y (pc + 1) k) : ab_Sd G Z d Y pc (o_xald j xs k) := by
  refine h.step fun lv st w r hr => ?_
  unfold o_xald at hr
  split at hr
  · rename_i i a st'
    split at hr
    · rename_i hc
      obtain ⟨rfl, hi⟩ := hc
      split at hr
      · rename_i x hv
        refine ⟨lv, .int x :: st', w, hr, ab_le.rf, fun p l e R s m args below meth c Q n0 t0 N T hX hR hn ht hN hT kk ls H locs hl ha hS => ?_⟩
        show W p l e R s m args below meth c H locs _ _ Q (F0 m pc ls (.int i :: .ref (ab_ad G (1000000 + j)) :: st'.map (ab_cv G)))
        rw [ab_ad_ext]
        have hx1 := hz s hX.2.2.2.2.2.2.1
        refine va_ti (v := .int x) hX.1 hX.2.1 hx1 hS (ab_in hi (List.getElem?_eq_some_iff.mp hv).1) (by show Value.int _ = _; rw [ab_getD hv]) hd ?_
        exact kk ls H locs hl ha hS
      · cases hr
    · cases hr
  · cases hr
theorem sn_xlen {j : Nat} {xs : List Int32} (hd : decode Y.1 pc = .ok (.arraylength, 1)) (hz : ∀ U, Z U → ab_Xo G j xs U) (h : ab_Sd G Z d Y (pc + 1) k) : ab_Sd G Z d Y pc (o_xlen j xs k) := by
  refine h.step fun lv st w r hr => ?_
  unfold o_xlen at hr
  split at hr
  · rename_i a st'
    split at hr
    · rename_i hc
      subst hc
      refine ⟨lv, _, w, hr, ab_le.rf, fun p l e R s m args below meth c Q n0 t0 N T hX hR hn ht hN hT kk ls H locs hl ha hS => ?_⟩
      show W p l e R s m args below meth c H locs _ _ Q (F0 m pc ls (.ref (ab_ad G (1000000 + j)) :: st'.map (ab_cv G)))
      rw [ab_ad_ext]
      obtain ⟨hx1, hx2⟩ := hz s hX.2.2.2.2.2.2.1
      have hsz := hX.2.2.2.2.2.2.2.1
      exact va_slen hX.1 hX.2.1 hx1 (by omega) (by show ¬ G.2.1 ≤ G.2.2 j; omega) hS hd (kk ls H locs hl ha hS)
    · cases hr
  · cases hr
theorem sn_getsN {j index : Nat} {C n ds host : String} (hd : decode Y.1 pc = .ok (.getstatic index, 3)) (hz : ∀ U, Z U → va_Z C n ds (.ref (G.2.2 j)) (ab_A G) U U.heap ∧ va_Nw (.fieldLinkNest Y.2.1 index C n ds host) U) (h : ab_Sd G Z d Y (pc + 3) k) : ab_Sd G Z d Y pc (o_push (.ref (1000000 + j)) k) := by
  refine h.step fun lv st w r hr => ⟨lv, .ref (1000000 + j) :: st, w, hr, ab_le.rf, fun p l e R s m args below meth c Q n0 t0 N T hX hR hn ht hN hT kk ls H locs hl ha hS => ?_⟩
  have e1 : ab_cv G (.ref (1000000 + j)) = .ref (G.2.2 j) := by
    show Value.ref (ab_ad G (1000000 + j)) = _
    rw [ab_ad_ext]
  have h2 := kk ls H locs hl ha hS
  rw [List.map_cons, e1] at h2
  obtain ⟨z1, z2⟩ := hz s hX.2.2.2.2.2.2.1
  exact va_getsN hX.1 hX.2.1 z1 hS hX.2.2.2.1 (va_Nw.use rfl z2) (fun _ q => q) hd h2
end ABX
/-! calls of a method by its number -/
section ABQ
variable {G : ab_G} {Z : State → Prop} {d : Nat} {Y : ab_Y} {pc : Nat} {k : ab_K} {M : Nat → ab_M} {cal : ab_F}
theorem sq_callS {i n idx : Nat} {Mi : ab_M} (hM : M i = Mi) (hcs : ab_CS G Z M cal d) (hd : decode Y.1 pc = .ok (.invokestatic idx, 3)) (hl : Cond.methodLink Y.2.1 idx Mi.1 ∈ ab_GW) (hst : Cond.static Mi.1 ∈ ab_GW) (hii : Cond.initialized Mi.1.cls ∈ ab_GW) (hcd : Cond.code Mi.1 Mi.2.1 Mi.2.2.1 Mi.2.2.2 ∈ ab_GW)
    (hy : Mi.1.cls ≠ "java/lang/invoke/MethodHandle" ∧ Mi.1.cls ≠ "java/lang/invoke/VarHandle" ∧ (parseMethodDescriptor Mi.1.desc).map (fun d => d.parameters.length) = some n) (hml : Mi.2.2.1 ≤ 45) (h : ab_Sd G Z (d + 1) Y (pc + 3) k) : ab_Sd G Z (d + 1) Y pc (o_callS cal i n k) := by
  subst hM; exact sn_callS hd hl hst hii hcd hy hml hcs h
theorem sq_callSN {i n idx : Nat} {Mi : ab_M} {host : String} (hM : M i = Mi) (hcs : ab_CS G Z M cal d) (hd : decode Y.1 pc = .ok (.invokestatic idx, 3)) (hl : ∀ U, Z U → va_Nw (.methodLinkNest Y.2.1 idx Mi.1 host) U) (hst : Cond.static Mi.1 ∈ ab_GW) (hii : Cond.initialized Mi.1.cls ∈ ab_GW) (hcd : Cond.code Mi.1 Mi.2.1 Mi.2.2.1 Mi.2.2.2 ∈ ab_GW)
    (hy : Mi.1.cls ≠ "java/lang/invoke/MethodHandle" ∧ Mi.1.cls ≠ "java/lang/invoke/VarHandle" ∧ (parseMethodDescriptor Mi.1.desc).map (fun d => d.parameters.length) = some n) (hml : Mi.2.2.1 ≤ 45) (h : ab_Sd G Z (d + 1) Y (pc + 3) k) : ab_Sd G Z (d + 1) Y pc (o_callS cal i n k) := by
  subst hM; exact sn_callSN hd hl hst hii hcd hy hml hcs h
theorem sq_callV {i n idx ci : Nat} {q : vw_C} {Mi : ab_M} (hM : M i = Mi) (hcs : ab_CS G Z M cal d) (hd : decode Y.1 pc = .ok (.invokevirtual idx, 3)) (hc0 : vwCl[ci]? = some q) (hl : Cond.methodLink Y.2.1 idx Mi.1 ∈ ab_GW) (hin : Cond.instanceMethod Mi.1 ∈ ab_GW) (hse : Cond.selects q.1 Mi.1 Mi.1 ∈ ab_GW) (hii : Cond.initialized Mi.1.cls ∈ ab_GW) (hcd : Cond.code Mi.1 Mi.2.1 Mi.2.2.1 Mi.2.2.2 ∈ ab_GW)
    (hy : Mi.1.cls ≠ "java/lang/invoke/MethodHandle" ∧ Mi.1.cls ≠ "java/lang/invoke/VarHandle" ∧ (parseMethodDescriptor Mi.1.desc).map (fun d => d.parameters.length) = some n) (hml : Mi.2.2.1 ≤ 45) (h : ab_Sd G Z (d + 1) Y (pc + 3) k) : ab_Sd G Z (d + 1) Y pc (o_callV cal i n ci k) := by
  subst hM; exact sn_callV hd hc0 hl hin hse hii hcd hy hml hcs h
theorem sq_callI {i n idx : Nat} {Mi : ab_M} (hM : M i = Mi) (hcs : ab_CS G Z M cal d) (hd : decode Y.1 pc = .ok (.invokespecial idx, 3)) (hl : Cond.methodLink Y.2.1 idx Mi.1 ∈ ab_GW) (hin : Cond.instanceMethod Mi.1 ∈ ab_GW) (hii : Cond.initialized Mi.1.cls ∈ ab_GW) (hrn : Mi.2.2.2 = none) (hnm : Mi.1.name = "<init>") (hcd : Cond.code Mi.1 Mi.2.1 Mi.2.2.1 Mi.2.2.2 ∈ ab_GW)
    (hy : Mi.1.cls ≠ "java/lang/invoke/MethodHandle" ∧ Mi.1.cls ≠ "java/lang/invoke/VarHandle" ∧ (parseMethodDescriptor Mi.1.desc).map (fun d => d.parameters.length) = some n) (hml : Mi.2.2.1 ≤ 45) (h : ab_Sd G Z (d + 1) Y (pc + 3) k) : ab_Sd G Z (d + 1) Y pc (o_callI cal i n k) := by
  subst hM; exact sn_callI hd hl hin hii hrn hnm hcd hy hml hcs h
theorem sq_callIN {i n idx : Nat} {Mi : ab_M} {host : String} (hM : M i = Mi) (hcs : ab_CS G Z M cal d) (hd : decode Y.1 pc = .ok (.invokespecial idx, 3)) (hl : ∀ U, Z U → va_Nw (.methodLinkNest Y.2.1 idx Mi.1 host) U) (hin : Cond.instanceMethod Mi.1 ∈ ab_GW) (hii : Cond.initialized Mi.1.cls ∈ ab_GW) (hrn : Mi.2.2.2 = none) (hnm : Mi.1.name = "<init>") (hcd : Cond.code Mi.1 Mi.2.1 Mi.2.2.1 Mi.2.2.2 ∈ ab_GW)
    (hy : Mi.1.cls ≠ "java/lang/invoke/MethodHandle" ∧ Mi.1.cls ≠ "java/lang/invoke/VarHandle" ∧ (parseMethodDescriptor Mi.1.desc).map (fun d => d.parameters.length) = some n) (hml : Mi.2.2.1 ≤ 45) (h : ab_Sd G Z (d + 1) Y (pc + 3) k) : ab_Sd G Z (d + 1) Y pc (o_callI cal i n k) := by
  subst hM; exact sn_callIN hd hl hin hii hrn hnm hcd hy hml hcs h
end ABQ
/-! the state's own facts -/
def ab_nst : List (String × Nat × MethodName) := [("DominoKing", 21, ⟨"DominoKing$Thoughts", "<init>", "()V"⟩), ("DominoKing", 28, ⟨"DominoKing$Tape", "<init>", "()V"⟩), ("DominoKing", 58, ⟨"DominoKing$Sheet", "<init>", "()V"⟩), ("DominoKing", 59, ⟨"DominoKing$Slot", "<init>", "()V"⟩), ("DominoKing$Slot", 9, ⟨"DominoKing$Sheet", "<init>", "()V"⟩), ("DominoKing$Table", 86, ⟨"DominoKing", "within", "(III)Z"⟩), ("DominoKing$Table", 114, ⟨"DominoKing", "clamp", "(III)I"⟩), ("DominoKing$Sheet", 34, ⟨"DominoKing", "within", "(III)Z"⟩)]
def ab_aov : List String := ["DominoKing$Text", "DominoKing$Sheet", "DominoKing$Slot"]
def ab_txt : List (Nat × String) := [(18, ""), (78, "dark"), (84, "fee"), (86, "fine"), (42, "srk"), (44, "pm"), (46, "lrt")]
def ab_above : List Int32 := [0, 0, 0, 1, 2, 0]
def ab_slen : List Nat := [0, 4, 3, 4, 3, 2, 3]
def ab_sbyt : List (List Int32) := [[], [100, 97, 114, 107], [102, 101, 101], [102, 105, 110, 101], [115, 114, 107], [112, 109], [108, 114, 116]]
def ab_Z (G : ab_G) (xs : List Int32) (U : State) : Prop := (∀ (j : Nat) (q : String × Nat × MethodName), ab_nst[j]? = some q → va_Nw (.methodLinkNest q.1 q.2.1 q.2.2 "DominoKing") U) ∧ (∀ (j : Nat) (C : String), ab_aov[j]? = some C → va_AO C U) ∧ (∀ (j : Nat) (q : Nat × String), ab_txt[j]? = some q → vk_R "DominoKing$Reader" q.1 q.2 (G.2.2 (2 + j)) U) ∧
  (va_Z "DominoKing" "ABOVE" "[I" (.ref (G.2.2 0)) (ab_A G) U U.heap ∧ va_Nw (.fieldLinkNest "DominoKing$Kinds" 9 "DominoKing" "ABOVE" "[I" "DominoKing") U) ∧ ab_Xt G 0 ab_above U ∧ ab_Xo G 1 xs U ∧ vk_S 7 ab_slen ab_sbyt (fun j => G.2.2 (2 + j)) (fun j => G.2.2 (12 + j)) (ab_A G) U U.heap ∧ va_Z "java/lang/String" "COMPACT_STRINGS" "Z" (.int 1) (ab_A G) U U.heap ∧ (va_Z "jdk/internal/util/Preconditions" "SIOOBE_FORMATTER" "Ljava/util/function/BiFunction;" .null (ab_A G) U U.heap ∨ va_Z "jdk/internal/util/Preconditions" "SIOOBE_FORMATTER" "Ljava/util/function/BiFunction;" (.ref (G.2.2 20)) (ab_A G) U U.heap) ∧ G.2.1 ≤ U.heap.size
theorem ab_Xo.st {G : ab_G} {j : Nat} {xs : List Int32} {s U : State} (h : ab_Xo G j xs s) (hW : s.WarmedH U.vm) (hq : ∀ q, q < G.2.1 → U.heap[q]? = s.heap[q]?) : ab_Xo G j xs U := ⟨(h.1.moved hW.alike).kept (hq _ h.2), h.2⟩
theorem ab_Z_st (G : ab_G) (xs : List Int32) : ab_St G (ab_Z G xs) := by
  intro s U h hW hq
  obtain ⟨h1, h2, h3, ⟨h4, h5⟩, h6, h7, h9, h10, h11, h8⟩ := h
  have hq2 : ∀ a : Nat, a < s.heap.size → ¬ ab_A G a → U.heap[a]? = s.heap[a]? := fun a _ h => hq a (Nat.not_le.mp h)
  refine ⟨fun j q hj => va_Nw.warmM hW (h1 j q hj), fun j C hj => va_AO.moved hW.alike (h2 j C hj), fun j q hj => vk_R.warm hW (h3 j q hj), ⟨(va_Z.moved hW.alike h4).kept hq2, va_Nw.warmF hW h5⟩, (va_T.moved hW.alike h6).kept hq2, h7.st hW hq, (vk_S.moved hW.alike h9).kept hq2, (va_Z.moved hW.alike h10).kept hq2, h11.imp (fun q => (va_Z.moved hW.alike q).kept hq2) (fun q => (va_Z.moved hW.alike q).kept hq2), ?_⟩
  rcases Nat.eq_zero_or_pos G.2.1 with h0 | h0
  · omega
  · have e1 := hq (G.2.1 - 1) (by omega)
    have e2 : s.heap[G.2.1 - 1]? = some (s.heap[G.2.1 - 1]'(by omega)) := Array.getElem?_eq_getElem (by omega)
    rw [e2] at e1
    have := (Array.getElem?_eq_some_iff.mp e1).1
    omega
