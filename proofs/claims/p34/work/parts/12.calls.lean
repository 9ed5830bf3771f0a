/-! ===== calls ===== -/
/-- a method's name, code, locals, answer -/
abbrev ab_M : Type := MethodName × ByteArray × Nat × Option FieldType
def ab_rm (d : Nat) (w w' : ab_W) : Room := { frames := d, cells := w'.length - w.length, slots := ab_tot w' - ab_tot w, locals := 64 * d }
def ab_Pc (G : ab_G) (Z : State → Prop) (As : List Value) (w : ab_W) : Array Value → State → Prop := fun v U => v = (As.map (ab_cv G)).toArray ∧ ab_at G w U.heap ∧ va_K G.1.1 vwCl (ab_tys G) U ∧ Z U ∧ ab_St G Z
def ab_Qc (G : ab_G) (v : Option Value) (w' : ab_W) : Array Value → State → Outcome → State → Prop := fun _ st o t => o = .returned (v.map (ab_cv G)) ∧ ab_at G w' t.heap ∧ va_F (ab_A G) st t
abbrev ab_mw (M : ab_M) : List Cond := .code M.1 M.2.1 M.2.2.1 M.2.2.2 :: ab_GW
def ab_CS (G : ab_G) (Z : State → Prop) (M : Nat → ab_M) (cal : ab_F) (d : Nat) : Prop := ∀ i As w v w', cal i As w = some (v, w') → ab_le w w' ∧ ∀ l, Met l (M i).1 (ab_mw (M i)) (ab_rm d w w') (ab_Pc G Z As w) (ab_Qc G v w') (w'.length - w.length) (ab_tot w' - ab_tot w) (ab_A G)
def o_callS (cal : ab_F) (i n : Nat) (k : ab_K) : ab_K := fun lv st w => if n ≤ st.length ∧ ab_cl (st.drop n) = true then (match cal i (st.take n).reverse w with
  | some (v, w') => k lv (v.toList ++ st.drop n) w'
  | none => none) else none
def o_callV (cal : ab_F) (i n ci : Nat) (k : ab_K) : ab_K := fun lv st w => match st.drop n with
  | .ref b :: rest => (match w[b]? with
    | some (.inl (c, _)) => if c = ci ∧ ab_cl rest = true then (match cal i (.ref b :: (st.take n).reverse) w with
      | some (v, w') => k lv (v.toList ++ rest) w'
      | none => none) else none
    | _ => none)
  | _ => none
def o_callI (cal : ab_F) (i n : Nat) (k : ab_K) : ab_K := fun lv st w => match st.drop n with
  | .ref b :: rest => if ab_cl rest = true then (match cal i (.ref b :: (st.take n).reverse) w with
      | some (v, w') => k lv (v.toList ++ rest) w'
      | none => none) else none
  | _ => none
section ABK
variable {G : ab_G} {Z : State → Prop} {d : Nat} {Y : ab_Y} {pc : Nat} {k : ab_K} {M : Nat → ab_M} {cal : ab_F}
theorem ab_callW {p : Program} {l : Launch} {e : Env} {R : Room} {s : State} {m : MethodId} {args : Array Value} {below : List Frame} {meth : Method} {c : Code} {H : Heap} {locs : List Loc} {cells slots mc ms : Nat} {Q : State → Prop} {g : JFrame} {rest : List Value} {Qa : State → Outcome → State → Prop} {free : Addr → Prop}
    (hr : va_Run p l e R s m args below meth c H locs cells slots mc ms g rest Qa free) (kk : ∀ (v : Option Value) (st₀ t : State) (L : List Loc), st₀.heap = H → (∀ q ∈ L, free q.base) → Qa st₀ (.returned v) t → W p l e R s m args below meth c t.heap (locs ++ L) (cells + mc) (slots + ms) Q { g with pc := g.pc + 3, stack := v.toList ++ rest }) : W p l e R s m args below meth c H locs cells slots Q g := by
  intro T hT X
  obtain ⟨v, st₀, t, T', L, h0, X', hL, e1, e2, hq, st⟩ := hr T hT X
  obtain ⟨t2, a1, b1⟩ := kk v st₀ t L h0 hL hq T' e1 X'
  exact ⟨t2, st t2 a1, b1⟩
theorem ab_Pc_blind (hst : ab_St G Z) (As : List Value) (w : ab_W) : FrameBlind (ab_Pc G Z As w) := by
  intro a U g mk q
  obtain ⟨q1, q2, q3, q4, q5⟩ := q
  exact ⟨q1, q2, va_K.moved (u := U) (U := U.calling g mk a) (Vm.Alike.refl U.vm) q3, hst U _ q4 (State.WarmedH.refl U) (fun _ _ => rfl), q5⟩
theorem ab_goodM {M : ab_M} (hc : Cond.code M.1 M.2.1 M.2.2.1 M.2.2.2 ∈ ab_GW) : GoodIn ab_GW (ab_mw M) := by
  intro w hw
  rcases List.mem_cons.mp hw with rfl | h
  · exact ⟨hc, good_of_word (List.mem_filter.mp hc).2⟩
  · exact ⟨h, good_of_word (List.mem_filter.mp h).2⟩
theorem ab_PcU {p : Program} {s : State} {m : MethodId} {args : Array Value} {meth : Method} {c : Code} {n0 : Nat} {w : ab_W} {H : Heap} {locs : List Loc} {As : List Value} (hX : ab_X G Z p s m args meth c Y n0) (ha : ab_at G w H) (hS : va_S (ab_A G) s.heap H locs) : ∀ U : State, U.heap = H → s.WarmedH U.vm → ab_Pc G Z As w (As.map (ab_cv G)).toArray U := by
  intro U hU hW
  refine ⟨rfl, by rw [hU]; exact ha, va_K.moved hW.alike hX.2.2.2.2.2.1, hX.2.2.2.2.2.2.2.2.2.2.2 s U hX.2.2.2.2.2.2.1 hW (fun q hq => ?_), hX.2.2.2.2.2.2.2.2.2.2.2⟩
  rw [hU]
  have h1 := hX.2.2.2.2.2.2.2.1
  exact hS.2.1 q (by omega) (by show ¬ G.2.1 ≤ q; omega)
/-- behind a call -/
theorem ab_back {p : Program} {l : Launch} {e : Env} {R : Room} {s : State} {m : MethodId} {args : Array Value} {below : List Frame} {meth : Method} {c : Code} {Q : State → Prop} {n0 t0 : Nat} {lv : ab_L} {st rest : List Value} {w w' : ab_W} {H : Heap} {ls : Array Slot} {locs : List Loc} {v : Option Value} {a : Array Value}
    (hn : n0 ≤ w.length) (ht : t0 ≤ ab_tot w) (hle : ab_le w w') (hl : lv_has ls Y.2.2.1 (ab_lp G lv)) (hS : va_S (ab_A G) s.heap H locs) (kk : ab_J G p l e R s m args below meth c Q Y n0 t0 (pc + 3) lv (v.toList ++ rest) w')
    (hr : va_Run p l e R s m args below meth c H locs (w.length - n0) (ab_tot w - t0) (w'.length - w.length) (ab_tot w' - ab_tot w) (F0 m pc ls (st.map (ab_cv G))) (rest.map (ab_cv G)) (ab_Qc G v w' a) (ab_A G)) : W p l e R s m args below meth c H locs (w.length - n0) (ab_tot w - t0) Q (F0 m pc ls (st.map (ab_cv G))) := by
  refine ab_callW hr fun v' st₀ t L h0 hL hq => ?_
  obtain ⟨e1, hat, hF⟩ := hq
  have e2 : v' = v.map (ab_cv G) := by injection e1
  subst e2
  have hle1 := hle.1
  have hle2 := hle.2
  rw [show w.length - n0 + (w'.length - w.length) = w'.length - n0 by omega, show ab_tot w - t0 + (ab_tot w' - ab_tot w) = ab_tot w' - t0 by omega]
  have k2 := kk ls t.heap (locs ++ L) hl hat ⟨Nat.le_trans hS.1 (by rw [← h0]; exact hF.1), fun q h1 h2 => by
      rw [hF.2 q (by rw [h0]; exact Nat.lt_of_lt_of_le h1 hS.1) h2, h0]; exact hS.2.1 q h1 h2, fun q hq => by
      rcases List.mem_append.mp hq with h | h
      · exact hS.2.2 q h
      · exact hL q h⟩
  have e3 : (v.toList ++ rest).map (ab_cv G) = (v.map (ab_cv G)).toList ++ rest.map (ab_cv G) := by
    rw [List.map_append]
    congr 1
    cases v <;> rfl
  rw [e3] at k2
  exact k2
theorem ab_fits {d n0 t0 N T : Nat} {R : Room} {w w' : ab_W} (hR : ab_Rm (d + 1) n0 t0 N T R) (hn : n0 ≤ w.length) (ht : t0 ≤ ab_tot w) (hle : ab_le w w') (hN : w'.length ≤ N) (hT : ab_tot w' ≤ T) : w.length - n0 + (w'.length - w.length) ≤ R.cells ∧ ab_tot w - t0 + (ab_tot w' - ab_tot w) ≤ R.slots := by
  obtain ⟨h1, h2, h3, h4⟩ := hR
  obtain ⟨h5, h6⟩ := hle
  omega
theorem ab_rmR {d n0 t0 N T maxL : Nat} {R : Room} {w w' : ab_W} (hR : ab_Rm (d + 1) n0 t0 N T R) (hL : maxL ≤ 45) : (ab_rm d w w').frames + 1 ≤ R.frames ∧ 8 + (maxL + 11) + (ab_rm d w w').locals ≤ R.locals := by
  obtain ⟨h1, h2, h3, h4⟩ := hR
  show d + 1 ≤ R.frames ∧ 8 + (maxL + 11) + 64 * d ≤ R.locals
  omega
theorem ab_stk (G : ab_G) (n : Nat) (st : List Value) : st.map (ab_cv G) = ((st.take n).reverse.map (ab_cv G)).reverse ++ (st.drop n).map (ab_cv G) := by
  rw [List.map_reverse, List.reverse_reverse, ← List.map_append, List.take_append_drop]
theorem sn_callS {i n idx : Nat} (hd : decode Y.1 pc = .ok (.invokestatic idx, 3)) (hl : Cond.methodLink Y.2.1 idx (M i).1 ∈ ab_GW) (hst : Cond.static (M i).1 ∈ ab_GW) (hii : Cond.initialized (M i).1.cls ∈ ab_GW) (hcd : Cond.code (M i).1 (M i).2.1 (M i).2.2.1 (M i).2.2.2 ∈ ab_GW)
    (hy : (M i).1.cls ≠ "java/lang/invoke/MethodHandle" ∧ (M i).1.cls ≠ "java/lang/invoke/VarHandle" ∧ (parseMethodDescriptor (M i).1.desc).map (fun d => d.parameters.length) = some n) (hml : (M i).2.2.1 ≤ 45) (hcs : ab_CS G Z M cal d) (h : ab_Sd G Z (d + 1) Y (pc + 3) k) : ab_Sd G Z (d + 1) Y pc (o_callS cal i n k) := by
  refine h.step fun lv st w r hr => ?_
  unfold o_callS at hr
  split at hr
  · rename_i hlen
    split at hr
    · rename_i v w' hc
      obtain ⟨hle, hM⟩ := hcs _ _ _ _ _ hc
      refine ⟨lv, _, w', hr, hle, fun p l e R s m args below meth c Q n0 t0 N T hX hR hn ht hN hT kk ls H locs hlv ha hS => ?_⟩
      exact ab_back (rest := st.drop n) hn ht hle hlv hS kk (va_runS (As := (st.take n).reverse.map (ab_cv G)) (rest := (st.drop n).map (ab_cv G)) ⟨hX.1, hX.2.1, hX.2.2.1, hX.2.2.2.1, hX.2.2.2.2.1⟩ (hM l) ⟨callB_of n hX.2.2.2.2.1 (ab_goodM hcd) rfl rfl rfl (hX.2.2.2.2.1 _ hii) (hX.2.2.2.2.1 _ hl) hy (ab_rmR hR hml), hX.2.2.2.2.1 _ hst⟩ ⟨ab_Pc_blind hX.2.2.2.2.2.2.2.2.2.2.2 _ _, ab_PcU hX ha hS⟩ rfl (by simp; omega) hlv.1 (ab_stk G n st) (lv_room (ab_cl_le hlen.2)) hd (ab_fits hR hn ht hle hN hT))
    · cases hr
  · cases hr
theorem sn_callSN {i n idx : Nat} {host : String} (hd : decode Y.1 pc = .ok (.invokestatic idx, 3)) (hl : ∀ U, Z U → va_Nw (.methodLinkNest Y.2.1 idx (M i).1 host) U) (hst : Cond.static (M i).1 ∈ ab_GW) (hii : Cond.initialized (M i).1.cls ∈ ab_GW) (hcd : Cond.code (M i).1 (M i).2.1 (M i).2.2.1 (M i).2.2.2 ∈ ab_GW)
    (hy : (M i).1.cls ≠ "java/lang/invoke/MethodHandle" ∧ (M i).1.cls ≠ "java/lang/invoke/VarHandle" ∧ (parseMethodDescriptor (M i).1.desc).map (fun d => d.parameters.length) = some n) (hml : (M i).2.2.1 ≤ 45) (hcs : ab_CS G Z M cal d) (h : ab_Sd G Z (d + 1) Y (pc + 3) k) : ab_Sd G Z (d + 1) Y pc (o_callS cal i n k) := by
  refine h.step fun lv st w r hr => ?_
  unfold o_callS at hr
  split at hr
  · rename_i hlen
    split at hr
    · rename_i v w' hc
      obtain ⟨hle, hM⟩ := hcs _ _ _ _ _ hc
      refine ⟨lv, _, w', hr, hle, fun p l e R s m args below meth c Q n0 t0 N T hX hR hn ht hN hT kk ls H locs hlv ha hS => ?_⟩
      exact ab_back (rest := st.drop n) hn ht hle hlv hS kk (va_runSN (As := (st.take n).reverse.map (ab_cv G)) (rest := (st.drop n).map (ab_cv G)) ⟨hX.1, hX.2.1, hX.2.2.1, hX.2.2.2.1, hX.2.2.2.2.1⟩ (hM l) ⟨va_cnB n hX.2.2.2.2.1 (ab_goodM hcd) rfl rfl rfl (hl s hX.2.2.2.2.2.2.1) (hX.2.2.2.2.1 _ hii) hy (ab_rmR hR hml), hX.2.2.2.2.1 _ hst, trivial⟩ ⟨ab_Pc_blind hX.2.2.2.2.2.2.2.2.2.2.2 _ _, ab_PcU hX ha hS⟩ rfl (by simp; omega) hlv.1 (ab_stk G n st) (lv_room (ab_cl_le hlen.2)) hd (ab_fits hR hn ht hle hN hT))
    · cases hr
  · cases hr
theorem ab_stkV {G : ab_G} {n b : Nat} {st rest : List Value} (h : st.drop n = .ref b :: rest) : st.map (ab_cv G) = ((st.take n).reverse.map (ab_cv G)).reverse ++ .ref (ab_ad G b) :: rest.map (ab_cv G) := by
  rw [ab_stk G n st, h]
  rfl
theorem ab_lenV {n b : Nat} {st rest : List Value} {G : ab_G} (h : st.drop n = .ref b :: rest) : ((st.take n).reverse.map (ab_cv G)).length = n := by
  have := congrArg List.length h
  simp at this
  simp
  omega
theorem sn_callV {i n idx ci : Nat} {q : vw_C} (hd : decode Y.1 pc = .ok (.invokevirtual idx, 3)) (hc0 : vwCl[ci]? = some q) (hl : Cond.methodLink Y.2.1 idx (M i).1 ∈ ab_GW) (hin : Cond.instanceMethod (M i).1 ∈ ab_GW) (hse : Cond.selects q.1 (M i).1 (M i).1 ∈ ab_GW) (hii : Cond.initialized (M i).1.cls ∈ ab_GW) (hcd : Cond.code (M i).1 (M i).2.1 (M i).2.2.1 (M i).2.2.2 ∈ ab_GW)
    (hy : (M i).1.cls ≠ "java/lang/invoke/MethodHandle" ∧ (M i).1.cls ≠ "java/lang/invoke/VarHandle" ∧ (parseMethodDescriptor (M i).1.desc).map (fun d => d.parameters.length) = some n) (hml : (M i).2.2.1 ≤ 45) (hcs : ab_CS G Z M cal d) (h : ab_Sd G Z (d + 1) Y (pc + 3) k) : ab_Sd G Z (d + 1) Y pc (o_callV cal i n ci k) := by
  refine h.step fun lv st w r hr => ?_
  unfold o_callV at hr
  split at hr
  · rename_i b rest hdr
    split at hr
    · rename_i c' fs hb
      split at hr
      · rename_i hcl
        obtain ⟨rfl, hcl⟩ := hcl
        split at hr
        · rename_i v w' hc
          obtain ⟨hle, hM⟩ := hcs _ _ _ _ _ hc
          refine ⟨lv, _, w', hr, hle, fun p l e R s m args below meth c Q n0 t0 N T hX hR hn ht hN hT kk ls H locs hlv ha hS => ?_⟩
          exact ab_back hn ht hle hlv hS kk (va_runV (b := ab_ad G b) (As := (st.take n).reverse.map (ab_cv G)) (rest := rest.map (ab_cv G)) ⟨hX.1, hX.2.1, hX.2.2.1, hX.2.2.2.1, hX.2.2.2.2.1⟩ (hM l) ⟨callB_of n hX.2.2.2.2.1 (ab_goodM hcd) rfl rfl rfl (hX.2.2.2.2.1 _ hii) (hX.2.2.2.2.1 _ hl) hy (ab_rmR hR hml), hX.2.2.2.2.1 _ hin, hX.2.2.2.2.1 _ hse⟩ ⟨ab_Pc_blind hX.2.2.2.2.2.2.2.2.2.2.2 _ _, by rw [ab_ad_in ha hb]; exact va_recv hX.2.2.2.2.2.1 ha.1 hc0 (ab_ws_at hb), ab_PcU (As := .ref b :: (st.take n).reverse) hX ha hS⟩ rfl (ab_lenV hdr) hlv.1 (ab_stkV hdr) (lv_room (ab_cl_le hcl)) hd (ab_fits hR hn ht hle hN hT))
        · cases hr
      · cases hr
    · cases hr
  · cases hr
theorem sn_callI {i n idx : Nat} (hd : decode Y.1 pc = .ok (.invokespecial idx, 3)) (hl : Cond.methodLink Y.2.1 idx (M i).1 ∈ ab_GW) (hin : Cond.instanceMethod (M i).1 ∈ ab_GW) (hii : Cond.initialized (M i).1.cls ∈ ab_GW) (hrn : (M i).2.2.2 = none) (hnm : (M i).1.name = "<init>") (hcd : Cond.code (M i).1 (M i).2.1 (M i).2.2.1 (M i).2.2.2 ∈ ab_GW)
    (hy : (M i).1.cls ≠ "java/lang/invoke/MethodHandle" ∧ (M i).1.cls ≠ "java/lang/invoke/VarHandle" ∧ (parseMethodDescriptor (M i).1.desc).map (fun d => d.parameters.length) = some n) (hml : (M i).2.2.1 ≤ 45) (hcs : ab_CS G Z M cal d) (h : ab_Sd G Z (d + 1) Y (pc + 3) k) : ab_Sd G Z (d + 1) Y pc (o_callI cal i n k) := by
  refine h.step fun lv st w r hr => ?_
  unfold o_callI at hr
  split at hr
  · rename_i b rest hdr
    split at hr
    · rename_i hcl
      split at hr
      · rename_i v w' hc
        obtain ⟨hle, hM⟩ := hcs _ _ _ _ _ hc
        have hmw : ab_mw (M i) = Cond.code (M i).1 (M i).2.1 (M i).2.2.1 none :: ab_GW := by
          show Cond.code _ _ _ (M i).2.2.2 :: ab_GW = _
          rw [hrn]
        refine ⟨lv, _, w', hr, hle, fun p l e R s m args below meth c Q n0 t0 N T hX hR hn ht hN hT kk ls H locs hlv ha hS => ?_⟩
        exact ab_back hn ht hle hlv hS kk (va_runI (b := ab_ad G b) (As := (st.take n).reverse.map (ab_cv G)) (rest := rest.map (ab_cv G)) ⟨hX.1, hX.2.1, hX.2.2.1, hX.2.2.2.1, hX.2.2.2.2.1⟩ (hM l) ⟨callB_of n hX.2.2.2.2.1 (ab_goodM hcd) hmw rfl rfl (hX.2.2.2.2.1 _ hii) (hX.2.2.2.2.1 _ hl) hy (ab_rmR hR hml), hnm, hX.2.2.2.2.1 _ hin⟩ ⟨ab_Pc_blind hX.2.2.2.2.2.2.2.2.2.2.2 _ _, ab_PcU (As := .ref b :: (st.take n).reverse) hX ha hS⟩ rfl (ab_lenV hdr) hlv.1 (ab_stkV hdr) (lv_room (ab_cl_le hcl)) hd (ab_fits hR hn ht hle hN hT))
      · cases hr
    · cases hr
  · cases hr
theorem sn_callIN {i n idx : Nat} {host : String} (hd : decode Y.1 pc = .ok (.invokespecial idx, 3)) (hl : ∀ U, Z U → va_Nw (.methodLinkNest Y.2.1 idx (M i).1 host) U) (hin : Cond.instanceMethod (M i).1 ∈ ab_GW) (hii : Cond.initialized (M i).1.cls ∈ ab_GW) (hrn : (M i).2.2.2 = none) (hnm : (M i).1.name = "<init>") (hcd : Cond.code (M i).1 (M i).2.1 (M i).2.2.1 (M i).2.2.2 ∈ ab_GW)
    (hy : (M i).1.cls ≠ "java/lang/invoke/MethodHandle" ∧ (M i).1.cls ≠ "java/lang/invoke/VarHandle" ∧ (parseMethodDescriptor (M i).1.desc).map (fun d => d.parameters.length) = some n) (hml : (M i).2.2.1 ≤ 45) (hcs : ab_CS G Z M cal d) (h : ab_Sd G Z (d + 1) Y (pc + 3) k) : ab_Sd G Z (d + 1) Y pc (o_callI cal i n k) := by
  refine h.step fun lv st w r hr => ?_
  unfold o_callI at hr
  split at hr
  · rename_i b rest hdr
    split at hr
    · rename_i hcl
      split at hr
      · rename_i v w' hc
        obtain ⟨hle, hM⟩ := hcs _ _ _ _ _ hc
        have hmw : ab_mw (M i) = Cond.code (M i).1 (M i).2.1 (M i).2.2.1 none :: ab_GW := by
          show Cond.code _ _ _ (M i).2.2.2 :: ab_GW = _
          rw [hrn]
        refine ⟨lv, _, w', hr, hle, fun p l e R s m args below meth c Q n0 t0 N T hX hR hn ht hN hT kk ls H locs hlv ha hS => ?_⟩
        exact ab_back hn ht hle hlv hS kk (va_runIN (b := ab_ad G b) (As := (st.take n).reverse.map (ab_cv G)) (rest := rest.map (ab_cv G)) ⟨hX.1, hX.2.1, hX.2.2.1, hX.2.2.2.1, hX.2.2.2.2.1⟩ (hM l) ⟨va_cnB n hX.2.2.2.2.1 (ab_goodM hcd) hmw rfl rfl (hl s hX.2.2.2.2.2.2.1) (hX.2.2.2.2.1 _ hii) hy (ab_rmR hR hml), hnm, hX.2.2.2.2.1 _ hin⟩ ⟨ab_Pc_blind hX.2.2.2.2.2.2.2.2.2.2.2 _ _, ab_PcU (As := .ref b :: (st.take n).reverse) hX ha hS⟩ rfl (ab_lenV hdr) hlv.1 (ab_stkV hdr) (lv_room (ab_cl_le hcl)) hd (ab_fits hR hn ht hle hN hT))
      · cases hr
    · cases hr
  · cases hr
end ABK
