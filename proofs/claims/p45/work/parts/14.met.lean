section
/-! ===== a method that runs meets its contract ===== -/
abbrev ab_mY (M : ab_M) (pcs : List Nat) : ab_Y := (M.2.1, M.1.cls, M.2.2.1, M.2.2.2, M.1.name, pcs)
def ab_ex (nL : Nat → Nat) (Bk : Nat → ab_F → List ab_K) (F : Nat) : Nat → ab_F
  | 0 => fun _ _ _ => none
  | d + 1 => fun i As w => if As.all (fun v => v.category == 1) = true ∧ As.length ≤ nL i then ab_run (Bk i (ab_ex nL Bk F d)) F 0 (ab_ent As (nL i)) [] w else none
section ABE
variable {G : ab_G} {Z : State → Prop} {d : Nat}
theorem ab_sl (vs : List Value) (h : ∀ v ∈ vs, v.category = 1) : (lg_sl vs).length = vs.length := by
  induction vs with
  | nil => rfl
  | cons a r ih =>
    have h1 := h a List.mem_cons_self
    have h2 := ih (fun v hv => h v (List.mem_cons_of_mem _ hv))
    simp [lg_sl, h1] at h2 ⊢
    omega
theorem ab_met {M : ab_M} {pcs : List Nat} {B : List ab_K} {F : Nat} {As : List Value} {w w' : ab_W} {v : Option Value} (hy : plainName M.1.cls = true) (h0 : pcs[0]? = some 0)
    (hB : ab_BS G Z d (ab_mY M pcs) pcs B) (hcat : ∀ v ∈ As, v.category = 1) (hlen : As.length ≤ M.2.2.1) (hr : ab_run B F 0 (ab_ent As M.2.2.1) [] w = some (v, w')) (l : Launch) : Met l M.1 (ab_mw M) (ab_rm d w w') (ab_Pc G Z As w) (ab_Qc G v w') (w'.length - w.length) (ab_tot w' - ab_tot w) (ab_A G) := by
  refine Met.ofW (cc := M.2.1) (maxL := M.2.2.1) (ret := M.2.2.2) hy rfl ?_
  intro p e s m args below meth c s₁ BB hml hv
  obtain ⟨rfl, hat, hK, hZ, hst⟩ := hv
  have hle : ab_le w w' := ab_run_le (Y := ab_mY M pcs) hB _ _ _ _ _ _ hr
  have hts := atoms_spec (ws := ab_mw M) BB.pre
  have hX : ab_X G Z p s m (As.map (ab_cv G)).toArray meth c (ab_mY M pcs) w.length := ⟨BB.exec, BB.bytes, hml, findClass_of_methodNamed BB.named, fun w hw => hts w (List.mem_cons_of_mem _ hw), hK, hZ, hat.2.1, BB.returns, BB.notSynchronized, (name_of_methodNamed BB.named BB.method).1, hst⟩
  have hR : ab_Rm d w.length (ab_tot w) w'.length (ab_tot w') (headSpec (ab_mw M) (ab_rm d w w')).room := by
    obtain ⟨h1, h2⟩ := hle
    show d ≤ d ∧ 64 * d ≤ 64 * d ∧ w'.length ≤ w.length + (w'.length - w.length) ∧ ab_tot w' ≤ ab_tot w + (ab_tot w' - ab_tot w)
    omega
  have hr2 : meth.sig.returnType = M.2.2.2 := BB.returns
  have hlocks : meth.locks = false := BB.notSynchronized
  have hQ : ab_Rt G p l e (headSpec (ab_mw M) (ab_rm d w w')).room s m (As.map (ab_cv G)).toArray below meth c (MQ below (ab_Qc G v w') (As.map (ab_cv G)).toArray s (w'.length - w.length) (ab_tot w' - ab_tot w) (ab_A G)) (ab_mY M pcs) w.length (ab_tot w) v w' := by
    intro hok pc ls H locs ha hS hdg
    have hq : ∀ (o : Outcome) (t : State), o = .returned (v.map (ab_cv G)) → t.heap = H → ab_Qc G v w' (As.map (ab_cv G)).toArray s o t := fun o t ho ht => ⟨ho, by rw [ht]; exact ha, hS.F ht⟩
    change ab_ok M.2.2.2 v = true at hok
    change decode M.2.1 pc = _ at hdg
    generalize hrt : M.2.2.2 = rt at hok hr2
    cases rt with
    | none =>
      cases v with
      | some x => cases x <;> cases hok
      | none => exact W.vret BB.exec BB.bytes hr2 (fun t ht _ => hq _ t rfl ht) hS.2.2 hdg hlocks
    | some ty =>
      cases v with
      | none => cases ty <;> cases hok
      | some x =>
        cases ty with
        | int =>
          cases x with
          | int x => exact W.iret (v := x) BB.exec BB.bytes hr2 (fun t ht _ => hq _ t rfl ht) hS.2.2 hdg hlocks
          | _ => cases hok
        | boolean =>
          cases x with
          | int x =>
            have hx : x = 0 ∨ x = 1 := by simpa [ab_ok] using hok
            exact W.zret (v := x) BB.exec BB.bytes hr2 (by rcases hx with rfl | rfl <;> rfl) (fun t ht _ => hq _ t rfl ht) hS.2.2 hdg hlocks
          | _ => cases hok
        | char =>
          cases x with
          | int x =>
            have hx : x = vp_nar .char x := by simpa [ab_ok] using hok
            exact W.zret (v := x) BB.exec BB.bytes hr2 (by rw [show narrow .char (.int x) = .int (vp_nar .char x) from rfl, ← hx]) (fun t ht _ => hq _ t rfl ht) hS.2.2 hdg hlocks
          | _ => cases hok
        | byte =>
          cases x with
          | int x =>
            have hx : x = vp_nar .byte x := by simpa [ab_ok] using hok
            exact W.zret (v := x) BB.exec BB.bytes hr2 (by rw [show narrow .byte (.int x) = .int (vp_nar .byte x) from rfl, ← hx]) (fun t ht _ => hq _ t rfl ht) hS.2.2 hdg hlocks
          | _ => cases hok
        | long =>
          cases x with
          | long x => exact W.lret (v := x) BB.exec BB.bytes hr2 (fun t ht _ => hq _ t rfl ht) hS.2.2 hdg hlocks
          | _ => cases hok
        | object C =>
          cases x with
          | ref x => exact W.aret BB.exec BB.bytes hr2 (Or.inl ⟨C, rfl⟩) (Or.inr ⟨_, rfl⟩) (fun t ht _ => hq _ t rfl ht) hS.2.2 hdg hlocks
          | null => exact W.aret BB.exec BB.bytes hr2 (Or.inl ⟨C, rfl⟩) (Or.inl rfl) (fun t ht _ => hq _ t rfl ht) hS.2.2 hdg hlocks
          | _ => cases hok
        | array ty =>
          cases x with
          | ref x => exact W.aret BB.exec BB.bytes hr2 (Or.inr ⟨ty, rfl⟩) (Or.inr ⟨_, rfl⟩) (fun t ht _ => hq _ t rfl ht) hS.2.2 hdg hlocks
          | null => exact W.aret BB.exec BB.bytes hr2 (Or.inr ⟨ty, rfl⟩) (Or.inl rfl) (fun t ht _ => hq _ t rfl ht) hS.2.2 hdg hlocks
          | _ => cases hok
        | _ => cases x <;> cases hok
  obtain ⟨pc, hpc, hJ⟩ := ab_run_J (Y := ab_mY M pcs) hB hX hR hQ F 0 _ _ w hr (Nat.le_refl _) (Nat.le_refl _)
  cases h0.symm.trans hpc
  have hc2 : ∀ v ∈ As.map (ab_cv G), v.category = 1 := by
    intro v hv
    obtain ⟨u, hu, rfl⟩ := List.mem_map.mp hv
    exact (ab_cv_cat G u).trans (hcat u hu)
  have hl := lv_entry (As.map (ab_cv G)) (n := M.2.2.1) (by rw [ab_sl _ hc2, List.length_map]; exact hlen)
  rw [lg_entry_eq]
  have hJ2 := hJ _ s.heap [] (ab_has_sub hl (ab_lp_ent hcat)) hat va_S.rf
  rw [Nat.sub_self, Nat.sub_self] at hJ2
  exact hJ2
end ABE
end
section
/-! ===== what is outside: the script, a static row, texts; the words that are handed on by the state ===== -/
def o_xald (j : Nat) (xs : List Int32) (k : ab_K) : ab_K := fun lv st w => match st with
  | .int i :: .ref a :: st' => if a = 1000000 + j ∧ ¬ i < 0 then (match xs[i.toNatClampNeg]? with
    | some x => k lv (.int x :: st') w
    | none => none) else none
  | _ => none
def o_xlen (j : Nat) (xs : List Int32) (k : ab_K) : ab_K := fun lv st w => match st with
  | .ref a :: st' => if a = 1000000 + j then k lv (.int (Int32.ofNat xs.length) :: st') w else none
  | _ => none
abbrev ab_Xo (G : ab_G) (j : Nat) (xs : List Int32) (U : State) : Prop := va_X (G.2.2 j) xs.length (fun j => xs.getD j 0) U U.heap ∧ G.2.2 j < G.2.1
section ABX
variable {G : ab_G} {Z : State → Prop} {d : Nat} {Y : ab_Y} {pc : Nat} {k : ab_K}
theorem ab_ad_ext (G : ab_G) (j : Nat) : ab_ad G (1000000 + j) = G.2.2 j := by
  unfold ab_ad
  rw [if_neg (by omega), Nat.add_sub_cancel_left]
theorem sn_xald {j : Nat} {xs : List Int32} (hd : decode Y.1 pc = .ok (.iaload, 1)) (hz : ∀ U, Z U → ab_Xo G j xs U) (h : ab_Sd G Z d Y (pc + 1) k) : ab_Sd G Z d Y pc (o_xald j xs k) := by
  refine h.step fun lv st w r hr => ?_
  unfold o_xald at hr
  split at hr
  · rename_i i a st'
    split at hr
    · rename_i hc
      obtain ⟨rfl, hi⟩ := hc
      split at hr
      · rename_i x hv
        refine ⟨lv, .int x :: st', w, hr, ab_le.rf, fun p l e R s m args below meth c Q n0 t0 N T hX hR hn ht hN hT kk ls H locs hl ha hS => ?_⟩
        show W p l e R s m args below meth c H locs _ _ Q (F0 m pc ls (.int i :: .ref (ab_ad G (1000000 + j)) :: st'.map (ab_cv G)))
        rw [ab_ad_ext]
        obtain ⟨hx1, hx2⟩ := hz s hX.2.2.2.2.2.2.1
        have hsz := hX.2.2.2.2.2.2.2.1
        refine va_sld hX.1 hX.2.1 hx1 (by omega) (by show ¬ G.2.1 ≤ G.2.2 j; omega) hS (ab_in hi (List.getElem?_eq_some_iff.mp hv).1) hd ?_
        rw [ab_getD hv]
        exact kk ls H locs hl ha hS
      · cases hr
    · cases hr
  · cases hr
/-- a row that the Statement gives, of which only the first places are known -/
abbrev ab_Xt (G : ab_G) (j : Nat) (xs : List Int32) (U : State) : Prop := va_T .int (G.2.2 j) xs.length (fun j => .int (xs.getD j 0)) (ab_A G) U U.heap
theorem sn_xaldT {j : Nat} {xs : List Int32} (hd : decode Y.1 pc = .ok (.iaload, 1)) (hz : ∀ U, Z U → ab_Xt G j xs U) (h : ab_Sd G Z d Y (pc + 1) k) : ab_Sd G Z d Y pc (o_xald j xs k) := by
  refine h.step fun lv st w r hr => ?_
  unfold o_xald at hr
  split at hr
  · rename_i i a st'
    split at hr
    · rename_i hc
      obtain ⟨rfl, hi⟩ := hc
      split at hr
      · rename_i x hv
        refine ⟨lv, .int x :: st', w, hr, ab_le.rf, fun p l e R s m args below meth c Q n0 t0 N T hX hR hn ht hN hT kk ls H locs hl ha hS => ?_⟩
        show W p l e R s m args below meth c H locs _ _ Q (F0 m pc ls (.int i :: .ref (ab_ad G (1000000 + j)) :: st'.map (ab_cv G)))
        rw [ab_ad_ext]
        have hx1 := hz s hX.2.2.2.2.2.2.1
        refine va_ti (v := .int x) hX.1 hX.2.1 hx1 hS (ab_in hi (List.getElem?_eq_some_iff.mp hv).1) (by show Value.int _ = _; rw [ab_getD hv]) hd ?_
        exact kk ls H locs hl ha hS
      · cases hr
    · cases hr
  · cases hr
theorem sn_xlen {j : Nat} {xs : List Int32} (hd : decode Y.1 pc = .ok (.arraylength, 1)) (hz : ∀ U, Z U → ab_Xo G j xs U) (h : ab_Sd G Z d Y (pc + 1) k) : ab_Sd G Z d Y pc (o_xlen j xs k) := by
  refine h.step fun lv st w r hr => ?_
  unfold o_xlen at hr
  split at hr
  · rename_i a st'
    split at hr
    · rename_i hc
      subst hc
      refine ⟨lv, _, w, hr, ab_le.rf, fun p l e R s m args below meth c Q n0 t0 N T hX hR hn ht hN hT kk ls H locs hl ha hS => ?_⟩
      show W p l e R s m args below meth c H locs _ _ Q (F0 m pc ls (.ref (ab_ad G (1000000 + j)) :: st'.map (ab_cv G)))
      rw [ab_ad_ext]
      obtain ⟨hx1, hx2⟩ := hz s hX.2.2.2.2.2.2.1
      have hsz := hX.2.2.2.2.2.2.2.1
      exact va_slen hX.1 hX.2.1 hx1 (by omega) (by show ¬ G.2.1 ≤ G.2.2 j; omega) hS hd (kk ls H locs hl ha hS)
    · cases hr
  · cases hr
theorem sn_getsN {j index : Nat} {C n ds host : String} (hd : decode Y.1 pc = .ok (.getstatic index, 3)) (hz : ∀ U, Z U → va_Z C n ds (.ref (G.2.2 j)) (ab_A G) U U.heap ∧ va_Nw (.fieldLinkNest Y.2.1 index C n ds host) U) (h : ab_Sd G Z d Y (pc + 3) k) : ab_Sd G Z d Y pc (o_push (.ref (1000000 + j)) k) := by
  refine h.step fun lv st w r hr => ⟨lv, .ref (1000000 + j) :: st, w, hr, ab_le.rf, fun p l e R s m args below meth c Q n0 t0 N T hX hR hn ht hN hT kk ls H locs hl ha hS => ?_⟩
  have e1 : ab_cv G (.ref (1000000 + j)) = .ref (G.2.2 j) := by
    show Value.ref (ab_ad G (1000000 + j)) = _
    rw [ab_ad_ext]
  have h2 := kk ls H locs hl ha hS
  rw [List.map_cons, e1] at h2
  obtain ⟨z1, z2⟩ := hz s hX.2.2.2.2.2.2.1
  exact va_getsN hX.1 hX.2.1 z1 hS hX.2.2.2.1 (va_Nw.use rfl z2) (fun _ q => q) hd h2
end ABX
/-! calls of a method by its number -/
section ABQ
variable {G : ab_G} {Z : State → Prop} {d : Nat} {Y : ab_Y} {pc : Nat} {k : ab_K} {M : Nat → ab_M} {cal : ab_F}
theorem sq_callS {i n idx : Nat} {Mi : ab_M} (hM : M i = Mi) (hcs : ab_CS G Z M cal d) (hd : decode Y.1 pc = .ok (.invokestatic idx, 3)) (hl : Cond.methodLink Y.2.1 idx Mi.1 ∈ ab_GW) (hst : Cond.static Mi.1 ∈ ab_GW) (hii : Cond.initialized Mi.1.cls ∈ ab_GW) (hcd : Cond.code Mi.1 Mi.2.1 Mi.2.2.1 Mi.2.2.2 ∈ ab_GW)
    (hy : Mi.1.cls ≠ "java/lang/invoke/MethodHandle" ∧ Mi.1.cls ≠ "java/lang/invoke/VarHandle" ∧ (parseMethodDescriptor Mi.1.desc).map (fun d => d.parameters.length) = some n) (hml : Mi.2.2.1 ≤ 45) (h : ab_Sd G Z (d + 1) Y (pc + 3) k) : ab_Sd G Z (d + 1) Y pc (o_callS cal i n k) := by
  subst hM; exact sn_callS hd hl hst hii hcd hy hml hcs h
theorem sq_callSN {i n idx : Nat} {Mi : ab_M} {host : String} (hM : M i = Mi) (hcs : ab_CS G Z M cal d) (hd : decode Y.1 pc = .ok (.invokestatic idx, 3)) (hl : ∀ U, Z U → va_Nw (.methodLinkNest Y.2.1 idx Mi.1 host) U) (hst : Cond.static Mi.1 ∈ ab_GW) (hii : Cond.initialized Mi.1.cls ∈ ab_GW) (hcd : Cond.code Mi.1 Mi.2.1 Mi.2.2.1 Mi.2.2.2 ∈ ab_GW)
    (hy : Mi.1.cls ≠ "java/lang/invoke/MethodHandle" ∧ Mi.1.cls ≠ "java/lang/invoke/VarHandle" ∧ (parseMethodDescriptor Mi.1.desc).map (fun d => d.parameters.length) = some n) (hml : Mi.2.2.1 ≤ 45) (h : ab_Sd G Z (d + 1) Y (pc + 3) k) : ab_Sd G Z (d + 1) Y pc (o_callS cal i n k) := by
  subst hM; exact sn_callSN hd hl hst hii hcd hy hml hcs h
theorem sq_callV {i n idx ci : Nat} {q : vw_C} {Mi : ab_M} (hM : M i = Mi) (hcs : ab_CS G Z M cal d) (hd : decode Y.1 pc = .ok (.invokevirtual idx, 3)) (hc0 : vwCl[ci]? = some q) (hl : Cond.methodLink Y.2.1 idx Mi.1 ∈ ab_GW) (hin : Cond.instanceMethod Mi.1 ∈ ab_GW) (hse : Cond.selects q.1 Mi.1 Mi.1 ∈ ab_GW) (hii : Cond.initialized Mi.1.cls ∈ ab_GW) (hcd : Cond.code Mi.1 Mi.2.1 Mi.2.2.1 Mi.2.2.2 ∈ ab_GW)
    (hy : Mi.1.cls ≠ "java/lang/invoke/MethodHandle" ∧ Mi.1.cls ≠ "java/lang/invoke/VarHandle" ∧ (parseMethodDescriptor Mi.1.desc).map (fun d => d.parameters.length) = some n) (hml : Mi.2.2.1 ≤ 45) (h : ab_Sd G Z (d + 1) Y (pc + 3) k) : ab_Sd G Z (d + 1) Y pc (o_callV cal i n ci k) := by
  subst hM; exact sn_callV hd hc0 hl hin hse hii hcd hy hml hcs h
theorem sq_callI {i n idx : Nat} {Mi : ab_M} (hM : M i = Mi) (hcs : ab_CS G Z M cal d) (hd : decode Y.1 pc = .ok (.invokespecial idx, 3)) (hl : Cond.methodLink Y.2.1 idx Mi.1 ∈ ab_GW) (hin : Cond.instanceMethod Mi.1 ∈ ab_GW) (hii : Cond.initialized Mi.1.cls ∈ ab_GW) (hrn : Mi.2.2.2 = none) (hnm : Mi.1.name = "<init>") (hcd : Cond.code Mi.1 Mi.2.1 Mi.2.2.1 Mi.2.2.2 ∈ ab_GW)
    (hy : Mi.1.cls ≠ "java/lang/invoke/MethodHandle" ∧ Mi.1.cls ≠ "java/lang/invoke/VarHandle" ∧ (parseMethodDescriptor Mi.1.desc).map (fun d => d.parameters.length) = some n) (hml : Mi.2.2.1 ≤ 45) (h : ab_Sd G Z (d + 1) Y (pc + 3) k) : ab_Sd G Z (d + 1) Y pc (o_callI cal i n k) := by
  subst hM; exact sn_callI hd hl hin hii hrn hnm hcd hy hml hcs h
theorem sq_callIN {i n idx : Nat} {Mi : ab_M} {host : String} (hM : M i = Mi) (hcs : ab_CS G Z M cal d) (hd : decode Y.1 pc = .ok (.invokespecial idx, 3)) (hl : ∀ U, Z U → va_Nw (.methodLinkNest Y.2.1 idx Mi.1 host) U) (hin : Cond.instanceMethod Mi.1 ∈ ab_GW) (hii : Cond.initialized Mi.1.cls ∈ ab_GW) (hrn : Mi.2.2.2 = none) (hnm : Mi.1.name = "<init>") (hcd : Cond.code Mi.1 Mi.2.1 Mi.2.2.1 Mi.2.2.2 ∈ ab_GW)
    (hy : Mi.1.cls ≠ "java/lang/invoke/MethodHandle" ∧ Mi.1.cls ≠ "java/lang/invoke/VarHandle" ∧ (parseMethodDescriptor Mi.1.desc).map (fun d => d.parameters.length) = some n) (hml : Mi.2.2.1 ≤ 45) (h : ab_Sd G Z (d + 1) Y (pc + 3) k) : ab_Sd G Z (d + 1) Y pc (o_callI cal i n k) := by
  subst hM; exact sn_callIN hd hl hin hii hrn hnm hcd hy hml hcs h
end ABQ
/-! the state's own facts -/
def ab_nst : List (String × Nat × MethodName) := [("DominoKing", 21, ⟨"DominoKing$Thoughts", "<init>", "()V"⟩), ("DominoKing", 28, ⟨"DominoKing$Tape", "<init>", "()V"⟩), ("DominoKing", 58, ⟨"DominoKing$Sheet", "<init>", "()V"⟩), ("DominoKing", 59, ⟨"DominoKing$Slot", "<init>", "()V"⟩), ("DominoKing$Slot", 9, ⟨"DominoKing$Sheet", "<init>", "()V"⟩), ("DominoKing$Table", 86, ⟨"DominoKing", "within", "(III)Z"⟩), ("DominoKing$Table", 114, ⟨"DominoKing", "clamp", "(III)I"⟩), ("DominoKing$Sheet", 34, ⟨"DominoKing", "within", "(III)Z"⟩)]
def ab_aov : List String := ["DominoKing$Text", "DominoKing$Sheet", "DominoKing$Slot"]
def ab_txt : List (Nat × String) := [(18, ""), (78, "dark"), (84, "fee"), (86, "fine"), (42, "srk"), (44, "pm"), (46, "lrt")]
def ab_above : List Int32 := [0, 0, 0, 1, 2, 0]
def ab_slen : List Nat := [0, 4, 3, 4, 3, 2, 3]
def ab_sbyt : List (List Int32) := [[], [100, 97, 114, 107], [102, 101, 101], [102, 105, 110, 101], [115, 114, 107], [112, 109], [108, 114, 116]]
def ab_Z (G : ab_G) (xs : List Int32) (U : State) : Prop := (∀ (j : Nat) (q : String × Nat × MethodName), ab_nst[j]? = some q → va_Nw (.methodLinkNest q.1 q.2.1 q.2.2 "DominoKing") U) ∧ (∀ (j : Nat) (C : String), ab_aov[j]? = some C → va_AO C U) ∧ (∀ (j : Nat) (q : Nat × String), ab_txt[j]? = some q → vk_R "DominoKing$Reader" q.1 q.2 (G.2.2 (2 + j)) U) ∧
  (va_Z "DominoKing" "ABOVE" "[I" (.ref (G.2.2 0)) (ab_A G) U U.heap ∧ va_Nw (.fieldLinkNest "DominoKing$Kinds" 9 "DominoKing" "ABOVE" "[I" "DominoKing") U) ∧ ab_Xt G 0 ab_above U ∧ ab_Xo G 1 xs U ∧ vk_S 7 ab_slen ab_sbyt (fun j => G.2.2 (2 + j)) (fun j => G.2.2 (12 + j)) (ab_A G) U U.heap ∧ va_Z "java/lang/String" "COMPACT_STRINGS" "Z" (.int 1) (ab_A G) U U.heap ∧ (va_Z "jdk/internal/util/Preconditions" "SIOOBE_FORMATTER" "Ljava/util/function/BiFunction;" .null (ab_A G) U U.heap ∨ va_Z "jdk/internal/util/Preconditions" "SIOOBE_FORMATTER" "Ljava/util/function/BiFunction;" (.ref (G.2.2 20)) (ab_A G) U U.heap) ∧ G.2.1 ≤ U.heap.size
theorem ab_Xo.st {G : ab_G} {j : Nat} {xs : List Int32} {s U : State} (h : ab_Xo G j xs s) (hW : s.WarmedH U.vm) (hq : ∀ q, q < G.2.1 → U.heap[q]? = s.heap[q]?) : ab_Xo G j xs U := ⟨(h.1.moved hW.alike).kept (hq _ h.2), h.2⟩
theorem ab_Z_st (G : ab_G) (xs : List Int32) : ab_St G (ab_Z G xs) := by
  intro s U h hW hq
  obtain ⟨h1, h2, h3, ⟨h4, h5⟩, h6, h7, h9, h10, h11, h8⟩ := h
  have hq2 : ∀ a : Nat, a < s.heap.size → ¬ ab_A G a → U.heap[a]? = s.heap[a]? := fun a _ h => hq a (Nat.not_le.mp h)
  refine ⟨fun j q hj => va_Nw.warmM hW (h1 j q hj), fun j C hj => va_AO.moved hW.alike (h2 j C hj), fun j q hj => vk_R.warm hW (h3 j q hj), ⟨(va_Z.moved hW.alike h4).kept hq2, va_Nw.warmF hW h5⟩, (va_T.moved hW.alike h6).kept hq2, h7.st hW hq, (vk_S.moved hW.alike h9).kept hq2, (va_Z.moved hW.alike h10).kept hq2, h11.imp (fun q => (va_Z.moved hW.alike q).kept hq2) (fun q => (va_Z.moved hW.alike q).kept hq2), ?_⟩
  rcases Nat.eq_zero_or_pos G.2.1 with h0 | h0
  · omega
  · have e1 := hq (G.2.1 - 1) (by omega)
    have e2 : s.heap[G.2.1 - 1]? = some (s.heap[G.2.1 - 1]'(by omega)) := Array.getElem?_eq_getElem (by omega)
    rw [e2] at e1
    have := (Array.getElem?_eq_some_iff.mp e1).1
    omega
end
section
/-! ===== longs ===== -/
def o_lstore (i : Nat) (k : ab_K) : ab_K := fun lv st w => match st with
  | .long x :: st' => k (ab_st2 lv i (.long x)) st' w
  | _ => none
def o_lbin (f : Int64 → Int64 → Int64) (k : ab_K) : ab_K := fun lv st w => match st with
  | .long y :: .long x :: st' => k lv (.long (f x y) :: st') w
  | _ => none
def o_lneg (k : ab_K) : ab_K := fun lv st w => match st with
  | .long x :: st' => k lv (.long (-x) :: st') w
  | _ => none
def o_i2l (k : ab_K) : ab_K := fun lv st w => match st with
  | .int x :: st' => k lv (.long x.toInt64 :: st') w
  | _ => none
def o_l2i (k : ab_K) : ab_K := fun lv st w => match st with
  | .long x :: st' => k lv (.int x.toInt32 :: st') w
  | _ => none
def o_lcmp (k : ab_K) : ab_K := fun lv st w => match st with
  | .long y :: .long x :: st' => k lv (.int (lg_cmp x y) :: st') w
  | _ => none
theorem ab_st2_sub {G : ab_G} {lv : ab_L} {i : Nat} {v : Value} : ∀ q ∈ ab_lp G (ab_st2 lv i v), q ∈ (i, ab_cv G v) :: (ab_lp G lv).filter (fun q => !(q.1 == i) && (!(q.1 == i + 1) && !(q.1 + 1 == i && q.2.category == 2))) := by
  intro q hq
  obtain ⟨u, h1, h2⟩ := ab_lp_mem.mp hq
  unfold ab_st2 at h1
  by_cases hj : i + 1 = q.1
  · rw [← hj] at h1
    have hlt := (List.getElem?_eq_some_iff.mp h1).1
    rw [List.length_set] at hlt
    rw [List.getElem?_set_self hlt] at h1
    cases h1
  · rw [List.getElem?_set_ne hj] at h1
    by_cases hi : i = q.1
    · subst hi
      have hl := (List.getElem?_eq_some_iff.mp h1).1
      rw [List.length_set] at hl
      rw [List.getElem?_set_self hl] at h1
      simp at h1
      subst h1
      have : q = (q.1, ab_cv G v) := by rw [← h2]
      rw [this]
      exact List.mem_cons_self
    · rw [List.getElem?_set_ne hi] at h1
      obtain ⟨h3, h4⟩ := ab_kill_get h1
      refine List.mem_cons_of_mem _ (List.mem_filter.mpr ⟨ab_lp_mem.mpr ⟨u, h3, h2⟩, ?_⟩)
      have e1 : (q.1 == i) = false := by simp; omega
      have e2 : (q.1 == i + 1) = false := by simp; omega
      rw [e1, e2, h2, ab_cv_cat]
      by_cases h5 : q.1 + 1 = i
      · have : ¬ u.category = 2 := fun h6 => h4 ⟨h5, h6⟩
        simp [this]
      · simp [h5]
section ABLO
variable {G : ab_G} {Z : State → Prop} {d : Nat} {Y : ab_Y} {pc : Nat} {k : ab_K}
theorem sn_lload_n {n : Fin 4} {i : Nat} (hd : decode Y.1 pc = .ok (.lload_n n, 1)) (hi : (n : Nat) = i) (h : ab_Sd G Z d Y (pc + 1) k) : ab_Sd G Z d Y pc (o_lload i k) := by
  refine h.step fun lv st w r hr => ?_
  unfold o_lload at hr
  split at hr
  · rename_i x hx
    exact ⟨lv, .long x :: st, w, hr, ab_le.rf, fun p l e R s m args below meth c Q n0 t0 N T hX hR hn ht hN hT kk ls H locs hl ha hS => lv_lload_n hX.1 hX.2.1 hd hi (ab_has_get hl hx) (kk ls H locs hl ha hS)⟩
  · cases hr
theorem sn_lload {i : Nat} (hd : decode Y.1 pc = .ok (.lload i, 2)) (h : ab_Sd G Z d Y (pc + 2) k) : ab_Sd G Z d Y pc (o_lload i k) := by
  refine h.step fun lv st w r hr => ?_
  unfold o_lload at hr
  split at hr
  · rename_i x hx
    exact ⟨lv, .long x :: st, w, hr, ab_le.rf, fun p l e R s m args below meth c Q n0 t0 N T hX hR hn ht hN hT kk ls H locs hl ha hS => lv_lload hX.1 hX.2.1 hd (ab_has_get hl hx) (kk ls H locs hl ha hS)⟩
  · cases hr
theorem sn_lstore_n {n : Fin 4} {i : Nat} (hd : decode Y.1 pc = .ok (.lstore_n n, 1)) (hi : (n : Nat) = i) (hL : i + 1 < Y.2.2.1) (h : ab_Sd G Z d Y (pc + 1) k) : ab_Sd G Z d Y pc (o_lstore i k) := by
  refine h.step fun lv st w r hr => ?_
  unfold o_lstore at hr
  split at hr
  · rename_i x st'
    exact ⟨_, st', w, hr, ab_le.rf, fun p l e R s m args below meth c Q n0 t0 N T hX hR hn ht hN hT kk ls H locs hl ha hS => lv_lstore_n hX.1 hX.2.1 hd hi hl hL rfl (fun ls' hl' => kk ls' H locs (ab_has_sub hl' ab_st2_sub) ha hS)⟩
  · cases hr
theorem sn_lstore {i : Nat} (hd : decode Y.1 pc = .ok (.lstore i, 2)) (hL : i + 1 < Y.2.2.1) (h : ab_Sd G Z d Y (pc + 2) k) : ab_Sd G Z d Y pc (o_lstore i k) := by
  refine h.step fun lv st w r hr => ?_
  unfold o_lstore at hr
  split at hr
  · rename_i x st'
    exact ⟨_, st', w, hr, ab_le.rf, fun p l e R s m args below meth c Q n0 t0 N T hX hR hn ht hN hT kk ls H locs hl ha hS => lv_lstore hX.1 hX.2.1 hd hl hL rfl (fun ls' hl' => kk ls' H locs (ab_has_sub hl' ab_st2_sub) ha hS)⟩
  · cases hr
theorem sn_ladd (hd : decode Y.1 pc = .ok (.ladd, 1)) (h : ab_Sd G Z d Y (pc + 1) k) : ab_Sd G Z d Y pc (o_lbin (fun x y => x + y) k) := by
  refine h.step fun lv st w r hr => ?_
  unfold o_lbin at hr
  split at hr
  · rename_i y x st'
    exact ⟨lv, _, w, hr, ab_le.rf, fun p l e R s m args below meth c Q n0 t0 N T hX hR hn ht hN hT kk ls H locs hl ha hS => lv_ladd hX.1 hX.2.1 hd (kk ls H locs hl ha hS)⟩
  · cases hr
theorem sn_lsub (hd : decode Y.1 pc = .ok (.lsub, 1)) (h : ab_Sd G Z d Y (pc + 1) k) : ab_Sd G Z d Y pc (o_lbin (fun x y => x - y) k) := by
  refine h.step fun lv st w r hr => ?_
  unfold o_lbin at hr
  split at hr
  · rename_i y x st'
    exact ⟨lv, _, w, hr, ab_le.rf, fun p l e R s m args below meth c Q n0 t0 N T hX hR hn ht hN hT kk ls H locs hl ha hS => lv_lsub hX.1 hX.2.1 hd (kk ls H locs hl ha hS)⟩
  · cases hr
theorem sn_lneg (hd : decode Y.1 pc = .ok (.lneg, 1)) (h : ab_Sd G Z d Y (pc + 1) k) : ab_Sd G Z d Y pc (o_lneg k) := by
  refine h.step fun lv st w r hr => ?_
  unfold o_lneg at hr
  split at hr
  · rename_i x st'
    exact ⟨lv, _, w, hr, ab_le.rf, fun p l e R s m args below meth c Q n0 t0 N T hX hR hn ht hN hT kk ls H locs hl ha hS => lv_lneg hX.1 hX.2.1 hd (kk ls H locs hl ha hS)⟩
  · cases hr
theorem sn_i2l (hd : decode Y.1 pc = .ok (.i2l, 1)) (h : ab_Sd G Z d Y (pc + 1) k) : ab_Sd G Z d Y pc (o_i2l k) := by
  refine h.step fun lv st w r hr => ?_
  unfold o_i2l at hr
  split at hr
  · rename_i x st'
    exact ⟨lv, _, w, hr, ab_le.rf, fun p l e R s m args below meth c Q n0 t0 N T hX hR hn ht hN hT kk ls H locs hl ha hS => lv_i2l hX.1 hX.2.1 hd rfl (kk ls H locs hl ha hS)⟩
  · cases hr
theorem sn_l2i (hd : decode Y.1 pc = .ok (.l2i, 1)) (h : ab_Sd G Z d Y (pc + 1) k) : ab_Sd G Z d Y pc (o_l2i k) := by
  refine h.step fun lv st w r hr => ?_
  unfold o_l2i at hr
  split at hr
  · rename_i x st'
    exact ⟨lv, _, w, hr, ab_le.rf, fun p l e R s m args below meth c Q n0 t0 N T hX hR hn ht hN hT kk ls H locs hl ha hS => lv_l2i hX.1 hX.2.1 hd rfl (kk ls H locs hl ha hS)⟩
  · cases hr
theorem sn_lcmp (hd : decode Y.1 pc = .ok (.lcmp, 1)) (h : ab_Sd G Z d Y (pc + 1) k) : ab_Sd G Z d Y pc (o_lcmp k) := by
  refine h.step fun lv st w r hr => ?_
  unfold o_lcmp at hr
  split at hr
  · rename_i y x st'
    exact ⟨lv, _, w, hr, ab_le.rf, fun p l e R s m args below meth c Q n0 t0 N T hX hR hn ht hN hT kk ls H locs hl ha hS => W.lcmp hX.1 hX.2.1 hd (kk ls H locs hl ha hS)⟩
  · cases hr
end ABLO
end
section
/-! ===== strings that are given: their fields, their bytes; a static that is a reference or null ===== -/
def ab_isS (a : Nat) : Bool := Nat.ble 1000002 a && Nat.blt a 1000009
def ab_isB (a : Nat) : Bool := Nat.ble 1000012 a && Nat.blt a 1000019
theorem ab_isS_j {a : Nat} (h : ab_isS a = true) : ∃ j : Nat, j < 7 ∧ a = 1000000 + (2 + j) := by
  simp only [ab_isS, Bool.and_eq_true, Nat.ble_eq, Nat.blt_eq] at h
  exact ⟨a - 1000002, by omega, by omega⟩
theorem ab_isB_j {a : Nat} (h : ab_isB a = true) : ∃ j : Nat, j < 7 ∧ a = 1000000 + (12 + j) ∧ Nat.sub a 1000012 = j := by
  simp only [ab_isB, Bool.and_eq_true, Nat.ble_eq, Nat.blt_eq] at h
  exact ⟨a - 1000012, by omega, by omega, rfl⟩
def o_sval (k : ab_K) : ab_K := fun lv st w => match st with
  | .ref a :: st' => if ab_isS a = true then k lv (.ref (Nat.add a 10) :: st') w else none
  | _ => none
def o_scod (k : ab_K) : ab_K := fun lv st w => match st with
  | .ref a :: st' => if ab_isS a = true then k lv (.int 0 :: st') w else none
  | _ => none
def o_sbal (k : ab_K) : ab_K := fun lv st w => match st with
  | .int i :: .ref a :: st' => if ab_isB a = true ∧ ¬ i < 0 ∧ i.toNatClampNeg < ab_slen.getD (Nat.sub a 1000012) 0 then k lv (.int ((ab_sbyt.getD (Nat.sub a 1000012) []).getD i.toNatClampNeg 0) :: st') w else none
  | _ => none
def o_sblen (k : ab_K) : ab_K := fun lv st w => match st with
  | .ref a :: st' => if ab_isB a = true then k lv (.int (Int32.ofNat (ab_slen.getD (Nat.sub a 1000012) 0)) :: st') w else none
  | _ => none
abbrev ab_vkG (G : ab_G) (U : State) : Prop := vk_S 7 ab_slen ab_sbyt (fun j => G.2.2 (2 + j)) (fun j => G.2.2 (12 + j)) (ab_A G) U U.heap
section ABST
variable {G : ab_G} {Z : State → Prop} {d : Nat} {Y : ab_Y} {pc : Nat} {k : ab_K}
theorem sn_sval {index : Nat} (hd : decode Y.1 pc = .ok (.getfield index, 3)) (hw : Cond.fieldLink Y.2.1 index "java/lang/String" "value" "[B" ∈ ab_GW) (hz : ∀ U, Z U → ab_vkG G U) (h : ab_Sd G Z d Y (pc + 3) k) : ab_Sd G Z d Y pc (o_sval k) := by
  refine h.step fun lv st w r hr => ?_
  unfold o_sval at hr
  split at hr
  · rename_i a st'
    split at hr
    · rename_i ha2
      refine ⟨lv, _, w, hr, ab_le.rf, fun p l e R s m args below meth c Q n0 t0 N T hX hR hn ht hN hT kk ls H locs hl ha hS => ?_⟩
      show W p l e R s m args below meth c H locs _ _ Q (F0 m pc ls (.ref (ab_ad G a) :: st'.map (ab_cv G)))
      obtain ⟨j, hj, rfl⟩ := ab_isS_j ha2
      have k2 := kk ls H locs hl ha hS
      change W p l e R s m args below meth c H locs _ _ Q (F0 m (pc + 3) ls (.ref (ab_ad G (Nat.add (1000000 + (2 + j)) 10)) :: st'.map (ab_cv G))) at k2
      have e9 : Nat.add (1000000 + (2 + j)) 10 = 1000000 + (12 + j) := by show 1000000 + (2 + j) + 10 = 1000000 + (12 + j); omega
      rw [e9, ab_ad_ext] at k2
      rw [ab_ad_ext]
      exact vk_getf hX.1 hX.2.1 ((hz s hX.2.2.2.2.2.2.1).1 j hj).2.2.1 hS hX.2.2.2.1 (hX.2.2.2.2.1 _ hw) (fun _ q => q) hd k2
    · cases hr
  · cases hr
theorem sn_scod {index : Nat} (hd : decode Y.1 pc = .ok (.getfield index, 3)) (hw : Cond.fieldLink Y.2.1 index "java/lang/String" "coder" "B" ∈ ab_GW) (hz : ∀ U, Z U → ab_vkG G U) (h : ab_Sd G Z d Y (pc + 3) k) : ab_Sd G Z d Y pc (o_scod k) := by
  refine h.step fun lv st w r hr => ?_
  unfold o_scod at hr
  split at hr
  · rename_i a st'
    split at hr
    · rename_i ha2
      refine ⟨lv, _, w, hr, ab_le.rf, fun p l e R s m args below meth c Q n0 t0 N T hX hR hn ht hN hT kk ls H locs hl ha hS => ?_⟩
      show W p l e R s m args below meth c H locs _ _ Q (F0 m pc ls (.ref (ab_ad G a) :: st'.map (ab_cv G)))
      obtain ⟨j, hj, rfl⟩ := ab_isS_j ha2
      rw [ab_ad_ext]
      exact vk_getf hX.1 hX.2.1 ((hz s hX.2.2.2.2.2.2.1).1 j hj).2.1 hS hX.2.2.2.1 (hX.2.2.2.2.1 _ hw) (fun _ q => q) hd (kk ls H locs hl ha hS)
    · cases hr
  · cases hr
theorem sn_sbal (hd : decode Y.1 pc = .ok (.baload, 1)) (hz : ∀ U, Z U → ab_vkG G U) (h : ab_Sd G Z d Y (pc + 1) k) : ab_Sd G Z d Y pc (o_sbal k) := by
  refine h.step fun lv st w r hr => ?_
  unfold o_sbal at hr
  split at hr
  · rename_i i a st'
    split at hr
    · rename_i ha2
      refine ⟨lv, _, w, hr, ab_le.rf, fun p l e R s m args below meth c Q n0 t0 N T hX hR hn ht hN hT kk ls H locs hl ha hS => ?_⟩
      show W p l e R s m args below meth c H locs _ _ Q (F0 m pc ls (.int i :: .ref (ab_ad G a) :: st'.map (ab_cv G)))
      obtain ⟨ha3, ha4, ha5⟩ := ha2
      obtain ⟨j, hj, rfl, e9⟩ := ab_isB_j ha3
      rw [e9] at ha5
      have k2 := kk ls H locs hl ha hS
      rw [e9] at k2
      rw [ab_ad_ext]
      exact va_tb hX.1 hX.2.1 ((hz s hX.2.2.2.2.2.2.1).1 j hj).2.2.2 hS (ab_in ha4 ha5) rfl hd k2
    · cases hr
  · cases hr
theorem sn_sblen (hd : decode Y.1 pc = .ok (.arraylength, 1)) (hz : ∀ U, Z U → ab_vkG G U) (h : ab_Sd G Z d Y (pc + 1) k) : ab_Sd G Z d Y pc (o_sblen k) := by
  refine h.step fun lv st w r hr => ?_
  unfold o_sblen at hr
  split at hr
  · rename_i a st'
    split at hr
    · rename_i ha2
      refine ⟨lv, _, w, hr, ab_le.rf, fun p l e R s m args below meth c Q n0 t0 N T hX hR hn ht hN hT kk ls H locs hl ha hS => ?_⟩
      show W p l e R s m args below meth c H locs _ _ Q (F0 m pc ls (.ref (ab_ad G a) :: st'.map (ab_cv G)))
      obtain ⟨j, hj, rfl, e9⟩ := ab_isB_j ha2
      have k2 := kk ls H locs hl ha hS
      rw [e9] at k2
      rw [ab_ad_ext]
      exact va_tlen hX.1 hX.2.1 ((hz s hX.2.2.2.2.2.2.1).1 j hj).2.2.2 hS rfl hd k2
    · cases hr
  · cases hr
/-- a static that holds an int -/
theorem sn_getsI {index : Nat} {C n ds : String} {v : Int32} (hd : decode Y.1 pc = .ok (.getstatic index, 3)) (hw : Cond.fieldLink Y.2.1 index C n ds ∈ ab_GW) (hz : ∀ U, Z U → va_Z C n ds (.int v) (ab_A G) U U.heap) (h : ab_Sd G Z d Y (pc + 3) k) : ab_Sd G Z d Y pc (o_push (.int v) k) :=
  h.step fun lv st w r hr => ⟨lv, .int v :: st, w, hr, ab_le.rf, fun p l e R s m args below meth c Q n0 t0 N T hX hR hn ht hN hT kk ls H locs hl ha hS => va_gets hX.1 hX.2.1 (hz s hX.2.2.2.2.2.2.1) hS hX.2.2.2.1 (hX.2.2.2.2.1 _ hw) (fun _ q => q) hd (kk ls H locs hl ha hS)⟩
end ABST
/-- calls on a given string -/
def o_callX (cal : ab_F) (i n : Nat) (k : ab_K) : ab_K := fun lv st w => match st.drop n with
  | .ref b :: rest => if ab_isS b = true ∧ ab_cl rest = true then (match cal i (.ref b :: (st.take n).reverse) w with
      | some (v, w') => k lv (v.toList ++ rest) w'
      | none => none) else none
  | _ => none
section ABXC
variable {G : ab_G} {Z : State → Prop} {d : Nat} {Y : ab_Y} {pc : Nat} {k : ab_K} {M : Nat → ab_M} {cal : ab_F}
theorem sn_callX {i n idx : Nat} (hd : decode Y.1 pc = .ok (.invokevirtual idx, 3)) (hz : ∀ U, Z U → ab_vkG G U) (hl : Cond.methodLink Y.2.1 idx (M i).1 ∈ ab_GW) (hin : Cond.instanceMethod (M i).1 ∈ ab_GW) (hse : Cond.selects "java/lang/String" (M i).1 (M i).1 ∈ ab_GW) (hii : Cond.initialized (M i).1.cls ∈ ab_GW) (hcd : Cond.code (M i).1 (M i).2.1 (M i).2.2.1 (M i).2.2.2 ∈ ab_GW)
    (hy : (M i).1.cls ≠ "java/lang/invoke/MethodHandle" ∧ (M i).1.cls ≠ "java/lang/invoke/VarHandle" ∧ (parseMethodDescriptor (M i).1.desc).map (fun d => d.parameters.length) = some n) (hml : (M i).2.2.1 ≤ 45) (hcs : ab_CS G Z M cal d) (h : ab_Sd G Z (d + 1) Y (pc + 3) k) : ab_Sd G Z (d + 1) Y pc (o_callX cal i n k) := by
  refine h.step fun lv st w r hr => ?_
  unfold o_callX at hr
  split at hr
  · rename_i b rest hdr
    split at hr
    · rename_i hcl
      split at hr
      · rename_i v w' hc
        obtain ⟨hle, hM⟩ := hcs _ _ _ _ _ hc
        obtain ⟨j, hj, ej⟩ := ab_isS_j hcl.1
        refine ⟨lv, _, w', hr, hle, fun p l e R s m args below meth c Q n0 t0 N T hX hR hn ht hN hT kk ls H locs hlv ha hS => ?_⟩
        exact ab_back hn ht hle hlv hS kk (va_runV (b := ab_ad G b) (As := (st.take n).reverse.map (ab_cv G)) (rest := rest.map (ab_cv G)) ⟨hX.1, hX.2.1, hX.2.2.1, hX.2.2.2.1, hX.2.2.2.2.1⟩ (hM l) ⟨callB_of n hX.2.2.2.2.1 (ab_goodM hcd) rfl rfl rfl (hX.2.2.2.2.1 _ hii) (hX.2.2.2.2.1 _ hl) hy (ab_rmR hR hml), hX.2.2.2.2.1 _ hin, hX.2.2.2.2.1 _ hse⟩ ⟨ab_Pc_blind hX.2.2.2.2.2.2.2.2.2.2.2 _ _, by rw [ej, ab_ad_ext]; exact vk_recv (i := j) (hz s hX.2.2.2.2.2.2.1) hj hS, ab_PcU (As := .ref b :: (st.take n).reverse) hX ha hS⟩ rfl (ab_lenV hdr) hlv.1 (ab_stkV hdr) (lv_room (ab_cl_le hcl.2)) hd (ab_fits hR hn ht hle hN hT))
      · cases hr
    · cases hr
  · cases hr
theorem sq_callX {i n idx : Nat} {Mi : ab_M} (hM : M i = Mi) (hcs : ab_CS G Z M cal d) (hd : decode Y.1 pc = .ok (.invokevirtual idx, 3)) (hz : ∀ U, Z U → ab_vkG G U) (hl : Cond.methodLink Y.2.1 idx Mi.1 ∈ ab_GW) (hin : Cond.instanceMethod Mi.1 ∈ ab_GW) (hse : Cond.selects "java/lang/String" Mi.1 Mi.1 ∈ ab_GW) (hii : Cond.initialized Mi.1.cls ∈ ab_GW) (hcd : Cond.code Mi.1 Mi.2.1 Mi.2.2.1 Mi.2.2.2 ∈ ab_GW)
    (hy : Mi.1.cls ≠ "java/lang/invoke/MethodHandle" ∧ Mi.1.cls ≠ "java/lang/invoke/VarHandle" ∧ (parseMethodDescriptor Mi.1.desc).map (fun d => d.parameters.length) = some n) (hml : Mi.2.2.1 ≤ 45) (h : ab_Sd G Z (d + 1) Y (pc + 3) k) : ab_Sd G Z (d + 1) Y pc (o_callX cal i n k) := by
  subst hM; exact sn_callX hd hz hl hin hse hii hcd hy hml hcs h
end ABXC
end
section
/-! comparing worlds by program -/
def ab_veq (a b : Value) : Bool := match a, b with
  | .int x, .int y => x == y
  | .ref x, .ref y => x == y
  | .null, .null => true
  | _, _ => false
theorem ab_veq_eq {a b : Value} (h : ab_veq a b = true) : a = b := by
  cases a <;> cases b <;> simp_all [ab_veq]
def ab_leq {α : Type} (f : α → α → Bool) : List α → List α → Bool
  | [], [] => true
  | a :: l, b :: m => f a b && ab_leq f l m
  | _, _ => false
theorem ab_leq_eq {α : Type} {f : α → α → Bool} (hf : ∀ a b, f a b = true → a = b) : ∀ {l m : List α}, ab_leq f l m = true → l = m
  | [], [], _ => rfl
  | [], _ :: _, h => by cases h
  | _ :: _, [], h => by cases h
  | a :: l, b :: m, h => by
    simp only [ab_leq, Bool.and_eq_true] at h
    rw [hf a b h.1, ab_leq_eq hf h.2]
def ab_oeq (a b : Option Nat) : Bool := match a, b with
  | some x, some y => x == y
  | none, none => true
  | _, _ => false
theorem ab_oeq_eq {a b : Option Nat} (h : ab_oeq a b = true) : a = b := by
  cases a <;> cases b <;> simp_all [ab_oeq]
def ab_ieq (a b : Int32) : Bool := a == b
theorem ab_ieq_eq {a b : Int32} (h : ab_ieq a b = true) : a = b := by simpa [ab_ieq] using h
def ab_ceq (a b : ab_C) : Bool := match a, b with
  | .inl (c, fs), .inl (c', fs') => c == c' && ab_leq ab_veq fs fs'
  | .inr (.inl (t, xs)), .inr (.inl (t', xs')) => t == t' && ab_leq ab_ieq xs xs'
  | .inr (.inr (t, xs)), .inr (.inr (t', xs')) => t == t' && ab_leq ab_oeq xs xs'
  | _, _ => false
theorem ab_ceq_eq (a b : ab_C) (h : ab_ceq a b = true) : a = b := by
  match a, b, h with
  | .inl (c, fs), .inl (c', fs'), h =>
    simp only [ab_ceq, Bool.and_eq_true, beq_iff_eq] at h
    rw [h.1, ab_leq_eq (fun _ _ => ab_veq_eq) h.2]
  | .inr (.inl (t, xs)), .inr (.inl (t', xs')), h =>
    simp only [ab_ceq, Bool.and_eq_true, beq_iff_eq] at h
    rw [h.1, ab_leq_eq (fun _ _ => ab_ieq_eq) h.2]
  | .inr (.inr (t, xs)), .inr (.inr (t', xs')), h =>
    simp only [ab_ceq, Bool.and_eq_true, beq_iff_eq] at h
    rw [h.1, ab_leq_eq (fun _ _ => ab_oeq_eq) h.2]
  | .inl (_, _), .inr (.inl (_, _)), h => cases h
  | .inl (_, _), .inr (.inr (_, _)), h => cases h
  | .inr (.inl (_, _)), .inl (_, _), h => cases h
  | .inr (.inr (_, _)), .inl (_, _), h => cases h
  | .inr (.inl (_, _)), .inr (.inr (_, _)), h => cases h
  | .inr (.inr (_, _)), .inr (.inl (_, _)), h => cases h
def ab_weq (a b : ab_W) : Bool := ab_leq ab_ceq a b
theorem ab_weq_eq {a b : ab_W} (h : ab_weq a b = true) : a = b := ab_leq_eq ab_ceq_eq h
def ab_lveq (a b : Option Value) : Bool := match a, b with
  | some x, some y => ab_veq x y
  | none, none => true
  | _, _ => false
theorem ab_lveq_eq (a b : Option Value) (h : ab_lveq a b = true) : a = b := by
  cases a <;> cases b <;> simp_all [ab_lveq]
  exact ab_veq_eq h
def ab_req (a b : ab_R) : Bool := match a, b with
  | .inl (i, lv, st, w), .inl (i', lv', st', w') => i == i' && (ab_leq ab_lveq lv lv' && (ab_leq ab_veq st st' && ab_weq w w'))
  | .inr (v, w), .inr (v', w') => ab_lveq v v' && ab_weq w w'
  | _, _ => false
theorem ab_req_eq {a b : ab_R} (h : ab_req a b = true) : a = b := by
  match a, b, h with
  | .inl (i, lv, st, w), .inl (i', lv', st', w'), h =>
    simp only [ab_req, Bool.and_eq_true, beq_iff_eq] at h
    obtain ⟨h1, h2, h3, h4⟩ := h
    rw [h1, ab_leq_eq ab_lveq_eq h2, ab_leq_eq (fun _ _ => ab_veq_eq) h3, ab_weq_eq h4]
  | .inr (v, w), .inr (v', w'), h =>
    simp only [ab_req, Bool.and_eq_true] at h
    rw [ab_lveq_eq _ _ h.1, ab_weq_eq h.2]
  | .inl (_, _, _, _), .inr (_, _), h => cases h
  | .inr (_, _), .inl (_, _, _, _), h => cases h
/-- a static of which only is known that it is a reference or null: both ways must come to the same -/
def o_getq (k : ab_K) : ab_K := fun lv st w => match k lv (.null :: st) w, k lv (.ref (1000000 + 20) :: st) w with
  | some r, some r' => if ab_req r r' = true then some r else none
  | _, _ => none
theorem sn_getq {G : ab_G} {Z : State → Prop} {d : Nat} {Y : ab_Y} {pc : Nat} {k : ab_K} {index : Nat} {C n ds : String} (hd : decode Y.1 pc = .ok (.getstatic index, 3)) (hw : Cond.fieldLink Y.2.1 index C n ds ∈ ab_GW) (hz : ∀ U, Z U → va_Z C n ds .null (ab_A G) U U.heap ∨ va_Z C n ds (.ref (G.2.2 20)) (ab_A G) U U.heap) (h : ab_Sd G Z d Y (pc + 3) k) : ab_Sd G Z d Y pc (o_getq k) := by
  have key : ∀ lv st w r, o_getq k lv st w = some r → k lv (.null :: st) w = some r ∧ k lv (.ref (1000000 + 20) :: st) w = some r := by
    intro lv st w r hr
    unfold o_getq at hr
    split at hr
    · rename_i r1 r2 h1 h2
      split at hr
      · rename_i he
        have e := ab_req_eq he
        obtain rfl := Option.some.inj hr
        exact ⟨h1, by rw [h2, e]⟩
      · cases hr
    · cases hr
  refine ⟨fun lv st w r hr => h.1 _ _ _ _ (key _ _ _ _ hr).1, ?_⟩
  intro p l e R s m args below meth c Q n0 t0 N T hX hR lv st w r hr hn ht hN hT hG ls H locs hl ha hS
  obtain ⟨k1, k2⟩ := key _ _ _ _ hr
  rcases hz s hX.2.2.2.2.2.2.1 with z | z
  · exact va_gets hX.1 hX.2.1 z hS hX.2.2.2.1 (hX.2.2.2.2.1 _ hw) (fun _ q => q) hd (h.2 p l e R s m args below meth c Q n0 t0 N T hX hR lv _ w r k1 hn ht hN hT hG ls H locs hl ha hS)
  · have q := h.2 p l e R s m args below meth c Q n0 t0 N T hX hR lv _ w r k2 hn ht hN hT hG ls H locs hl ha hS
    change W p l e R s m args below meth c H locs _ _ Q (F0 m (pc + 3) ls (.ref (ab_ad G (1000000 + 20)) :: st.map (ab_cv G))) at q
    rw [ab_ad_ext] at q
    exact va_gets hX.1 hX.2.1 z hS hX.2.2.2.1 (hX.2.2.2.2.1 _ hw) (fun _ q => q) hd q
end
section
/-! ===== a row of a long code array by its bytes: the array is read once, into one large number ===== -/
theorem db_bind {α β : Type} {r : Decoder α} {f : α → Decoder β} {c : ByteArray} {p q : Nat} {a : α} (h : Reader.runAt r c p = .ok (a, q)) : Reader.runAt (r >>= f) c p = Reader.runAt (f a) c q := by
  have h' : r c p = .ok (a, q) := h
  show (bind (r c p) (fun x => f x.1 c x.2) : Except DecodeError (β × Nat)) = f a c q
  rw [h']
  rfl
theorem db_u1 {c : ByteArray} {p : Nat} (h : p < c.size) : Reader.runAt (Reader.u1 : Decoder Nat) c p = .ok ((c[p]'h).toNat, p + 1) := by
  show (dite (p < c.size) (fun h => (do set (p + 1); pure (c[p]'h).toNat : Decoder Nat)) (fun _ => throw (HasTruncated.truncated p))) c p = _
  rw [dif_pos h]
  rfl
def By (c : ByteArray) (p b : Nat) : Prop := ∃ h : p < c.size, (c[p]'h).toNat = b
theorem db_1 {c : ByteArray} {p b : Nat} (h : By c p b) : Reader.runAt (Reader.u1 : Decoder Nat) c p = .ok (b, p + 1) := by
  obtain ⟨h1, h2⟩ := h
  rw [db_u1 h1, h2]
theorem db_u2 {c : ByteArray} {p a b : Nat} (h : By c p a) (h2 : By c (p + 1) b) : Reader.runAt (Reader.u2 : Decoder Nat) c p = .ok (a * 256 + b, p + 1 + 1) := by
  unfold Reader.u2
  rw [db_bind (db_1 h), db_bind (db_1 h2)]
  rfl
theorem db_s2 {c : ByteArray} {p a b : Nat} (h : By c p a) (h2 : By c (p + 1) b) : Reader.runAt (Reader.s2 : Decoder Int) c p = .ok (Reader.signed 16 (a * 256 + b), p + 1 + 1) := by
  have h' : (Reader.u2 : Decoder Nat) c p = .ok (a * 256 + b, p + 1 + 1) := db_u2 h h2
  show (bind ((Reader.u2 : Decoder Nat) c p) (fun x => pure (Reader.signed 16 x.1, x.2)) : Except DecodeError (Int × Nat)) = _
  rw [h']
  rfl
theorem de_3 {c : ByteArray} {p : Nat} (h : By c p 3) : decode c p = .ok (.iconst 0, 1) := by
  unfold decode Decoder.instr
  rw [db_bind (db_1 h)]
  show (Except.ok (.iconst 0, p + 1 - p) : Except DecodeError (Instr × Nat)) = _
  rw [Nat.add_sub_cancel_left]
theorem de_4 {c : ByteArray} {p : Nat} (h : By c p 4) : decode c p = .ok (.iconst 1, 1) := by
  unfold decode Decoder.instr
  rw [db_bind (db_1 h)]
  show (Except.ok (.iconst 1, p + 1 - p) : Except DecodeError (Instr × Nat)) = _
  rw [Nat.add_sub_cancel_left]
theorem de_5 {c : ByteArray} {p : Nat} (h : By c p 5) : decode c p = .ok (.iconst 2, 1) := by
  unfold decode Decoder.instr
  rw [db_bind (db_1 h)]
  show (Except.ok (.iconst 2, p + 1 - p) : Except DecodeError (Instr × Nat)) = _
  rw [Nat.add_sub_cancel_left]
theorem de_6 {c : ByteArray} {p : Nat} (h : By c p 6) : decode c p = .ok (.iconst 3, 1) := by
  unfold decode Decoder.instr
  rw [db_bind (db_1 h)]
  show (Except.ok (.iconst 3, p + 1 - p) : Except DecodeError (Instr × Nat)) = _
  rw [Nat.add_sub_cancel_left]
theorem de_29 {c : ByteArray} {p : Nat} (h : By c p 29) : decode c p = .ok (.iload_n 3, 1) := by
  unfold decode Decoder.instr
  rw [db_bind (db_1 h)]
  show (Except.ok (.iload_n 3, p + 1 - p) : Except DecodeError (Instr × Nat)) = _
  rw [Nat.add_sub_cancel_left]
theorem de_42 {c : ByteArray} {p : Nat} (h : By c p 42) : decode c p = .ok (.aload_n 0, 1) := by
  unfold decode Decoder.instr
  rw [db_bind (db_1 h)]
  show (Except.ok (.aload_n 0, p + 1 - p) : Except DecodeError (Instr × Nat)) = _
  rw [Nat.add_sub_cancel_left]
theorem de_43 {c : ByteArray} {p : Nat} (h : By c p 43) : decode c p = .ok (.aload_n 1, 1) := by
  unfold decode Decoder.instr
  rw [db_bind (db_1 h)]
  show (Except.ok (.aload_n 1, p + 1 - p) : Except DecodeError (Instr × Nat)) = _
  rw [Nat.add_sub_cancel_left]
theorem de_44 {c : ByteArray} {p : Nat} (h : By c p 44) : decode c p = .ok (.aload_n 2, 1) := by
  unfold decode Decoder.instr
  rw [db_bind (db_1 h)]
  show (Except.ok (.aload_n 2, p + 1 - p) : Except DecodeError (Instr × Nat)) = _
  rw [Nat.add_sub_cancel_left]
theorem de_46 {c : ByteArray} {p : Nat} (h : By c p 46) : decode c p = .ok (.iaload, 1) := by
  unfold decode Decoder.instr
  rw [db_bind (db_1 h)]
  show (Except.ok (.iaload, p + 1 - p) : Except DecodeError (Instr × Nat)) = _
  rw [Nat.add_sub_cancel_left]
theorem de_87 {c : ByteArray} {p : Nat} (h : By c p 87) : decode c p = .ok (.pop, 1) := by
  unfold decode Decoder.instr
  rw [db_bind (db_1 h)]
  show (Except.ok (.pop, p + 1 - p) : Except DecodeError (Instr × Nat)) = _
  rw [Nat.add_sub_cancel_left]
theorem de_96 {c : ByteArray} {p : Nat} (h : By c p 96) : decode c p = .ok (.iadd, 1) := by
  unfold decode Decoder.instr
  rw [db_bind (db_1 h)]
  show (Except.ok (.iadd, p + 1 - p) : Except DecodeError (Instr × Nat)) = _
  rw [Nat.add_sub_cancel_left]
theorem de_182 {c : ByteArray} {p a b v : Nat} (h : By c p 182) (h1 : By c (p + 1) a) (h2 : By c (p + 1 + 1) b) (hv : a * 256 + b = v) : decode c p = .ok (.invokevirtual v, 3) := by
  unfold decode Decoder.instr
  rw [db_bind (db_1 h)]
  show (bind (Reader.runAt ((Reader.u2 : Decoder Nat) >>= fun x => pure (Instr.invokevirtual x)) c (p + 1)) (fun x => pure (x.1, x.2 - p)) : Except DecodeError (Instr × Nat)) = _
  rw [db_bind (db_u2 h1 h2), hv]
  show (Except.ok (Instr.invokevirtual v, p + 1 + 1 + 1 - p) : Except DecodeError (Instr × Nat)) = _
  rw [show p + 1 + 1 + 1 - p = 3 by omega]
theorem de_167 {c : ByteArray} {p a b : Nat} {v : Int} (h : By c p 167) (h1 : By c (p + 1) a) (h2 : By c (p + 1 + 1) b) (hv : Reader.signed 16 (a * 256 + b) = v) : decode c p = .ok (.goto v, 3) := by
  unfold decode Decoder.instr
  rw [db_bind (db_1 h)]
  show (bind (Reader.runAt ((Reader.s2 : Decoder Int) >>= fun x => pure (Instr.goto x)) c (p + 1)) (fun x => pure (x.1, x.2 - p)) : Except DecodeError (Instr × Nat)) = _
  rw [db_bind (db_s2 h1 h2), hv]
  show (Except.ok (Instr.goto v, p + 1 + 1 + 1 - p) : Except DecodeError (Instr × Nat)) = _
  rw [show p + 1 + 1 + 1 - p = 3 by omega]
def db_chk : List UInt8 → Nat → Bool
  | [], _ => true
  | b :: l, B => (b.toNat == B % 256) && db_chk l (B / 256)
theorem db_get : ∀ (l : List UInt8) (B i : Nat) (b : UInt8), db_chk l B = true → l[i]? = some b → b.toNat = B / 256 ^ i % 256
  | [], _, _, _, _, h => by simp at h
  | a :: l, B, 0, b, h, hi => by
    simp only [db_chk, Bool.and_eq_true, beq_iff_eq] at h
    simp only [List.getElem?_cons_zero, Option.some.injEq] at hi
    rw [← hi, h.1, Nat.pow_zero, Nat.div_one]
  | a :: l, B, i + 1, b, h, hi => by
    simp only [db_chk, Bool.and_eq_true] at h
    simp only [List.getElem?_cons_succ] at hi
    rw [db_get l (B / 256) i b h.2 hi, Nat.div_div_eq_div_mul, Nat.pow_succ, Nat.mul_comm (256 ^ i) 256]
theorem db_by {c : ByteArray} {B n : Nat} (hs : c.size = n) (hc : db_chk c.data.toList B = true) (i b : Nat) (h : (decide (i < n) && (B / 256 ^ i % 256 == b)) = true) : By c i b := by
  simp only [Bool.and_eq_true, decide_eq_true_eq, beq_iff_eq] at h
  have hi : i < c.size := by rw [hs]; exact h.1
  refine ⟨hi, ?_⟩
  rw [← h.2]
  refine db_get c.data.toList B i _ hc ?_
  show c.data.toList[i]? = some (c.data[i]'hi)
  rw [Array.getElem?_toList]
  exact Array.getElem?_eq_getElem hi
end
