/-! ===== the tables' words that may be handed on ===== -/
def ab_GW : List Cond := lw_tbl.filter goodWord
theorem ab_gw {w : Cond} (i : Nat) (h : lw_tbl[i]? = some w) (hg : goodWord w = true) : w ∈ ab_GW := List.mem_filter.mpr ⟨List.mem_of_getElem? h, hg⟩
abbrev ab_tys (G : ab_G) : List (ClassId × FieldType) := [(G.1.2 0, .int), (G.1.2 1, .char), (G.1.2 2, .boolean), (G.1.2 3, .object "DominoKing$Sheet"), (G.1.2 4, .object "DominoKing$Slot"), (G.1.2 5, .object "DominoKing$Text"), (G.1.2 6, .byte)]
/-- what stays true of a state while only cells from the base on change -/
def ab_St (G : ab_G) (Z : State → Prop) : Prop := ∀ (s U : State), Z s → s.WarmedH U.vm → (∀ q, q < G.2.1 → U.heap[q]? = s.heap[q]?) → Z U
def ab_at (G : ab_G) (w : ab_W) (H : Heap) : Prop := va_P G.1.1 vwCl (ab_ws G w) H ∧ H.size = G.2.1 + w.length ∧ w.length ≤ 1000000
abbrev ab_A (G : ab_G) : Nat → Prop := fun q => G.2.1 ≤ q
/-- return types and returned values -/
def ab_ok (rt : Option FieldType) (v : Option Value) : Bool := match rt, v with
  | none, none => true
  | some .int, some (.int _) => true
  | some .boolean, some (.int x) => x == 0 || x == 1
  | some .char, some (.int x) => x == vp_nar .char x
  | some .byte, some (.int x) => x == vp_nar .byte x
  | some .long, some (.long _) => true
  | some (.object _), some (.ref _) => true
  | some (.object _), some .null => true
  | some (.array _), some (.ref _) => true
  | some (.array _), some .null => true
  | _, _ => false
def ab_ri (v : Option Value) : Instr := match v with
  | none => .return_
  | some (.int _) => .ireturn
  | some (.long _) => .lreturn
  | _ => .areturn
/-- a method, as the machine's tables name it: code, class, locals, answer, name, where its blocks begin -/
abbrev ab_Y : Type := ByteArray × String × Nat × Option FieldType × String × List Nat
section ABJ
variable (G : ab_G) (Z : State → Prop) (p : Program) (l : Launch) (e : Env) (R : Room) (s : State) (m : MethodId) (args : Array Value) (below : List Frame) (meth : Method) (c : Code) (Q : State → Prop)
/-- the machine inside a method -/
def ab_X (Y : ab_Y) (n0 : Nat) : Prop := p.tables.exec = Jvm.exec ∧ c.code = Y.1 ∧ c.maxLocals = Y.2.2.1 ∧ s.vm.findClass Y.2.1 = some m.cls ∧ (∀ w ∈ ab_GW, w.before args s = true) ∧ va_K G.1.1 vwCl (ab_tys G) s ∧ Z s ∧ s.heap.size = G.2.1 + n0 ∧ meth.sig.returnType = Y.2.2.2.1 ∧ meth.locks = false ∧ meth.name = Y.2.2.2.2.1 ∧ ab_St G Z
/-- from this block's place on, with these locals, this stack, this world, the machine comes to Q -/
def ab_J (Y : ab_Y) (n0 t0 pc : Nat) (lv : ab_L) (st : List Value) (w : ab_W) : Prop :=
  ∀ (ls : Array Slot) (H : Heap) (locs : List Loc), lv_has ls Y.2.2.1 (ab_lp G lv) → ab_at G w H → va_S (ab_A G) s.heap H locs → W p l e R s m args below meth c H locs (w.length - n0) (ab_tot w - t0) Q (F0 m pc ls (st.map (ab_cv G)))
/-- an answer is enough for Q -/
def ab_Rt (Y : ab_Y) (n0 t0 : Nat) (v : Option Value) (w : ab_W) : Prop := ab_ok Y.2.2.2.1 v = true → ∀ (pc : Nat) (ls : Array Slot) (H : Heap) (locs : List Loc), ab_at G w H → va_S (ab_A G) s.heap H locs → decode Y.1 pc = .ok (ab_ri v, 1) → W p l e R s m args below meth c H locs (w.length - n0) (ab_tot w - t0) Q (F0 m pc ls (v.toList.map (ab_cv G)))
def ab_Go (Y : ab_Y) (n0 t0 : Nat) (r : ab_R) : Prop := match r with
  | .inl (b, lv, st, w) => ∀ pc, Y.2.2.2.2.2[b]? = some pc → ab_J G p l e R s m args below meth c Q Y n0 t0 pc lv st w
  | .inr (v, w) => ab_Rt G p l e R s m args below meth c Q Y n0 t0 v w
end ABJ
def ab_rw (r : ab_R) : ab_W := match r with
  | .inl (_, _, _, w) => w
  | .inr (_, w) => w
def ab_le (w w' : ab_W) : Prop := w.length ≤ w'.length ∧ ab_tot w ≤ ab_tot w'
theorem ab_le.rf {w : ab_W} : ab_le w w := ⟨Nat.le_refl _, Nat.le_refl _⟩
theorem ab_le.trans {a b c : ab_W} (h : ab_le a b) (h2 : ab_le b c) : ab_le a c := ⟨Nat.le_trans h.1 h2.1, Nat.le_trans h.2 h2.2⟩
theorem ab_le.set {w : ab_W} {k : Nat} {c c' : ab_C} (h : w[k]? = some c) (hs : ab_sz c' = ab_sz c) : ab_le w (w.set k c') := ⟨by rw [List.length_set]; exact Nat.le_refl _, by rw [ab_tot_set h hs]; exact Nat.le_refl _⟩
theorem ab_le.app (w : ab_W) (c : ab_C) : ab_le w (w ++ [c]) := ⟨by simp, by rw [ab_tot_app]; exact Nat.le_add_right _ _⟩
/-- room for what is still to come: d frames, and cells and slots up to N and T -/
def ab_Rm (d n0 t0 N T : Nat) (R : Room) : Prop := d ≤ R.frames ∧ 64 * d ≤ R.locals ∧ N ≤ n0 + R.cells ∧ T ≤ t0 + R.slots
/-- the code k is what the method's bytes do from pc on -/
def ab_Sd (G : ab_G) (Z : State → Prop) (d : Nat) (Y : ab_Y) (pc : Nat) (k : ab_K) : Prop :=
  (∀ lv st w r, k lv st w = some r → ab_le w (ab_rw r)) ∧
  ∀ (p : Program) (l : Launch) (e : Env) (R : Room) (s : State) (m : MethodId) (args : Array Value) (below : List Frame) (meth : Method) (c : Code) (Q : State → Prop) (n0 t0 N T : Nat),
    ab_X G Z p s m args meth c Y n0 → ab_Rm d n0 t0 N T R → ∀ lv st w r, k lv st w = some r → n0 ≤ w.length → t0 ≤ ab_tot w → (ab_rw r).length ≤ N → ab_tot (ab_rw r) ≤ T →
    ab_Go G p l e R s m args below meth c Q Y n0 t0 r → ab_J G p l e R s m args below meth c Q Y n0 t0 pc lv st w
/-- a step that goes on within its block, or leaves it -/
theorem ab_Sd.step {G : ab_G} {Z : State → Prop} {d : Nat} {Y : ab_Y} {pc pc' : Nat} {k k1 : ab_K} (h : ab_Sd G Z d Y pc' k)
    (hk : ∀ lv st w r, k1 lv st w = some r → ∃ lv' st' w', k lv' st' w' = some r ∧ ab_le w w' ∧
      ∀ (p : Program) (l : Launch) (e : Env) (R : Room) (s : State) (m : MethodId) (args : Array Value) (below : List Frame) (meth : Method) (c : Code) (Q : State → Prop) (n0 t0 N T : Nat),
        ab_X G Z p s m args meth c Y n0 → ab_Rm d n0 t0 N T R → n0 ≤ w.length → t0 ≤ ab_tot w → w'.length ≤ N → ab_tot w' ≤ T → ab_J G p l e R s m args below meth c Q Y n0 t0 pc' lv' st' w' → ab_J G p l e R s m args below meth c Q Y n0 t0 pc lv st w) : ab_Sd G Z d Y pc k1 := by
  refine ⟨fun lv st w r hr => ?_, ?_⟩
  · obtain ⟨lv', st', w', h1, h2, -⟩ := hk lv st w r hr
    exact h2.trans (h.1 _ _ _ _ h1)
  · intro p l e R s m args below meth c Q n0 t0 N T hX hR lv st w r hr hn ht hN hT hG
    obtain ⟨lv', st', w', h1, h2, h3⟩ := hk lv st w r hr
    have h4 := h.1 _ _ _ _ h1
    exact h3 p l e R s m args below meth c Q n0 t0 N T hX hR hn ht (Nat.le_trans h4.1 hN) (Nat.le_trans h4.2 hT) (h.2 p l e R s m args below meth c Q n0 t0 N T hX hR lv' st' w' r h1 (Nat.le_trans hn h2.1) (Nat.le_trans ht h2.2) hN hT hG)
/-- a branch -/
theorem ab_Sd.br {G : ab_G} {Z : State → Prop} {d : Nat} {Y : ab_Y} {pc pc' : Nat} {k k1 : ab_K} (h : ab_Sd G Z d Y pc' k)
    (hk : ∀ lv st w r, k1 lv st w = some r → (∃ b lv' st' tg, r = .inl (b, lv', st', w) ∧ Y.2.2.2.2.2[b]? = some tg ∧
        ∀ (p : Program) (l : Launch) (e : Env) (R : Room) (s : State) (m : MethodId) (args : Array Value) (below : List Frame) (meth : Method) (c : Code) (Q : State → Prop) (n0 t0 : Nat),
          ab_X G Z p s m args meth c Y n0 → ab_J G p l e R s m args below meth c Q Y n0 t0 tg lv' st' w → ab_J G p l e R s m args below meth c Q Y n0 t0 pc lv st w) ∨
      (∃ lv' st', k lv' st' w = some r ∧
        ∀ (p : Program) (l : Launch) (e : Env) (R : Room) (s : State) (m : MethodId) (args : Array Value) (below : List Frame) (meth : Method) (c : Code) (Q : State → Prop) (n0 t0 : Nat),
          ab_X G Z p s m args meth c Y n0 → ab_J G p l e R s m args below meth c Q Y n0 t0 pc' lv' st' w → ab_J G p l e R s m args below meth c Q Y n0 t0 pc lv st w)) : ab_Sd G Z d Y pc k1 := by
  refine ⟨fun lv st w r hr => ?_, ?_⟩
  · rcases hk lv st w r hr with ⟨b, lv', st', tg, rfl, -, -⟩ | ⟨lv', st', h1, -⟩
    · exact ab_le.rf
    · exact h.1 _ _ _ _ h1
  · intro p l e R s m args below meth c Q n0 t0 N T hX hR lv st w r hr hn ht hN hT hG
    rcases hk lv st w r hr with ⟨b, lv', st', tg, rfl, h2, h3⟩ | ⟨lv', st', h1, h3⟩
    · exact h3 p l e R s m args below meth c Q n0 t0 hX (hG tg h2)
    · exact h3 p l e R s m args below meth c Q n0 t0 hX (h.2 p l e R s m args below meth c Q n0 t0 N T hX hR lv' st' w r h1 hn ht hN hT hG)
/-- a jump without a way on -/
theorem ab_Sd.jmp {G : ab_G} {Z : State → Prop} {d : Nat} {Y : ab_Y} {pc : Nat} {k1 : ab_K}
    (hk : ∀ lv st w r, k1 lv st w = some r → (∃ b lv' st' tg, r = .inl (b, lv', st', w) ∧ Y.2.2.2.2.2[b]? = some tg ∧
        ∀ (p : Program) (l : Launch) (e : Env) (R : Room) (s : State) (m : MethodId) (args : Array Value) (below : List Frame) (meth : Method) (c : Code) (Q : State → Prop) (n0 t0 : Nat),
          ab_X G Z p s m args meth c Y n0 → ab_J G p l e R s m args below meth c Q Y n0 t0 tg lv' st' w → ab_J G p l e R s m args below meth c Q Y n0 t0 pc lv st w)) : ab_Sd G Z d Y pc k1 := by
  refine ⟨fun lv st w r hr => ?_, ?_⟩
  · obtain ⟨b, lv', st', tg, rfl, -, -⟩ := hk lv st w r hr
    exact ab_le.rf
  · intro p l e R s m args below meth c Q n0 t0 N T hX hR lv st w r hr hn ht hN hT hG
    obtain ⟨b, lv', st', tg, rfl, h2, h3⟩ := hk lv st w r hr
    exact h3 p l e R s m args below meth c Q n0 t0 hX (hG tg h2)
theorem ab_Sd.fail {G : ab_G} {Z : State → Prop} {d : Nat} {Y : ab_Y} {pc : Nat} : ab_Sd G Z d Y pc (fun _ _ _ => none) := by
  refine ⟨fun lv st w r h => ?_, ?_⟩
  · cases h
  · intro p l e R s m args below meth c Q n0 t0 N T hX hR lv st w r hr
    cases hr
