section ABH4
variable {G : ab_G} {Z : State → Prop} {d : Nat} {Y : ab_Y} {pc : Nat} {k : ab_K}
/-- behind a new cell -/
theorem ab_newJ {p : Program} {l : Launch} {e : Env} {R : Room} {s : State} {m : MethodId} {args : Array Value} {below : List Frame} {meth : Method} {c : Code} {Q : State → Prop} {n0 t0 pc' q : Nat} {lv : ab_L} {st' : List Value} {w : ab_W} {y : ab_C} {H1 : Heap} {ls : Array Slot} {locs : List Loc}
    (hX : ab_X G Z p s m args meth c Y n0) (hn : n0 ≤ w.length) (ht : t0 ≤ ab_tot w) (hl6 : w.length < 1000000) (hl : lv_has ls Y.2.2.1 (ab_lp G lv)) (kk : ab_J G p l e R s m args below meth c Q Y n0 t0 pc' lv (.ref w.length :: st') (w ++ [y]))
    (hP1 : va_P G.1.1 vwCl (ab_ws G w ++ [(q, ab_e G y)]) H1) (hD1 : va_D (ab_A G) (ab_ws G w ++ [(q, ab_e G y)])) (hS1 : va_S (ab_A G) s.heap H1 locs) : W p l e R s m args below meth c H1 locs (w.length - n0 + 1) (ab_tot w - t0 + ab_sz y) Q (F0 m pc' ls (.ref q :: st'.map (ab_cv G))) := by
  refine ab_sizeW fun hz => ?_
  have e1 : q = G.2.1 + w.length := ab_newq hX.2.2.2.2.2.2.2.1 hn hP1 hD1 hz
  subst e1
  rw [← ab_ws_app] at hP1
  have e2 : (w ++ [y]).length = w.length + 1 := by simp
  have e3 : ab_tot (w ++ [y]) = ab_tot w + ab_sz y := ab_tot_app w y
  have e4 : ab_cv G (.ref w.length) = .ref (G.2.1 + w.length) := by
    show Value.ref (ab_ad G w.length) = _
    unfold ab_ad
    rw [if_pos hl6]
  have k2 := kk ls H1 locs hl
  rw [List.map_cons, e4, e2, e3, show w.length + 1 - n0 = w.length - n0 + 1 by omega, show ab_tot w + ab_sz y - t0 = ab_tot w - t0 + ab_sz y by omega] at k2
  have k3 := ab_atW (p := p) (l := l) (e := e) (R := R) (m := m) (args := args) (below := below) (meth := meth) (c := c) (Q := Q) (slots := ab_tot w - t0 + ab_sz y) (g := F0 m pc' ls (.ref (G.2.1 + w.length) :: st'.map (ab_cv G))) hX.2.2.2.2.2.2.2.1 (by rw [e2]; omega) (by rw [e2]; omega) hP1 hS1
  rw [e2, show w.length + 1 - n0 = w.length - n0 + 1 by omega] at k3
  exact k3 (fun hat => k2 hat hS1)
theorem ab_room {d n0 t0 N T : Nat} {R : Room} {w : ab_W} {y : ab_C} (hR : ab_Rm d n0 t0 N T R) (hn : n0 ≤ w.length) (ht : t0 ≤ ab_tot w) (hN : (w ++ [y]).length ≤ N) (hT : ab_tot (w ++ [y]) ≤ T) : w.length - n0 + 1 ≤ R.cells ∧ ab_tot w - t0 + ab_sz y ≤ R.slots := by
  obtain ⟨-, -, h3, h4⟩ := hR
  rw [ab_tot_app] at hT
  have : (w ++ [y]).length = w.length + 1 := by simp
  omega
theorem ab_defs {G : ab_G} {fs : List Value} {N : Nat} {ty : Nat → FieldType} (hfs : fs = (List.range N).map (fun j => defaultValue (ty j))) : fs.map (ab_cv G) = fs := by
  subst hfs
  rw [List.map_map]
  apply List.map_congr_left
  intro j _
  show ab_cv G (defaultValue (ty j)) = defaultValue (ty j)
  cases ty j <;> rfl
theorem sn_new {ci N index : Nat} {C : String} {T : u_T} {fs : List Value} (ty0 : Nat → FieldType) (hty : ∀ k, k < N → parseFieldDescriptor (T k).2.2.1 = some (ty0 k)) (hd : decode Y.1 pc = .ok (.new index, 3)) (hc : vwCl[ci]? = some (C, T, N)) (hin : ∀ w ∈ u_ws C T N, w ∈ ab_GW)
    (hcl : Cond.classLink Y.2.1 index C ∈ ab_GW) (hii : Cond.instantiable C N ∈ ab_GW) (hni : Cond.initialized C ∈ ab_GW) (hfs : fs = (List.range N).map (fun j => defaultValue (ty0 j))) (h : ab_Sd G Z d Y (pc + 3) k) : ab_Sd G Z d Y pc (o_new ci fs k) := by
  refine h.step fun lv st w r hr => ?_
  unfold o_new at hr
  split at hr
  · rename_i hl6
    refine ⟨lv, _, _, hr, ab_le.app w _, fun p l e R s m args below meth c Q n0 t0 N' T' hX hR hn ht hN hT kk ls H locs hl ha hS => ?_⟩
    have hrm := ab_room hR hn ht hN hT
    have hsz : ab_sz (.inl (ci, fs)) = N := by rw [hfs]; show ((List.range N).map _).length = N; simp
    rw [hsz] at hrm
    refine va_new (fs := fs.map (ab_cv G)) hX.1 hX.2.1 hX.2.2.2.2.1 hin ty0 hty hX.2.2.2.1 (hX.2.2.2.2.1 _ hcl) (hX.2.2.2.2.1 _ hii) (hX.2.2.2.2.1 _ hni) hX.2.2.2.2.2.1 ha.1 (ab_D G w) hS (fun q hq => by have := hX.2.2.2.2.2.2.2.1; show G.2.1 ≤ q; omega) hc ?_ hrm.1 hrm.2 hd (fun q H1 hP1 hD1 hS1 => ?_)
    · intro j hj
      rw [ab_defs hfs, hfs]
      show _ = ((List.range N).map (fun j => defaultValue (ty0 j))).getD j .null
      rw [List.getD_eq_getElem?_getD, List.getElem?_map, List.getElem?_range hj]
      rfl
    · have k2 := ab_newJ (y := .inl (ci, fs)) hX hn ht hl6 hl kk hP1 hD1 hS1
      rw [hsz] at k2
      exact k2
  · cases hr
theorem sn_newi {t : Nat} {atype : ArrayType} {ty : FieldType} (hd : decode Y.1 pc = .ok (.newarray atype, 2)) (hty : newarray.typeOf atype = ty) (hw : Cond.arrayClass (newarray.typeOf atype) ∈ ab_GW) (ht0 : (ab_tys G)[t]? = some (G.1.2 t, ty)) (hp : ∀ (U : State) (cA : ClassId), va_RA U cA ty → U.vm.findClass ("[" ++ ty.toString) = some cA) (hdv : defaultValue ty = .int 0) (hby : componentBytes ty ≤ 8) (h : ab_Sd G Z d Y (pc + 2) k) : ab_Sd G Z d Y pc (o_newi t k) := by
  refine h.step fun lv st w r hr => ?_
  unfold o_newi at hr
  split at hr
  · rename_i n st'
    split at hr
    · cases hr
    · rename_i hn0
      split at hr
      · rename_i hl6
        refine ⟨lv, _, _, hr, ab_le.app w _, fun p l e R s m args below meth c Q n0 t0 N' T' hX hR hn ht hN hT kk ls H locs hl ha hS => ?_⟩
        have hrm := ab_room hR hn ht hN hT
        have hsz : ab_sz (.inr (.inl (t, List.replicate n.toNatClampNeg (0 : Int32)))) = n.toNatClampNeg := List.length_replicate
        rw [hsz] at hrm
        have e0 : (fun j => (List.replicate n.toNatClampNeg (0 : Int32)).getD j 0) = fun _ => 0 := by
          funext j
          rw [List.getD_eq_getElem?_getD, List.getElem?_replicate]
          split <;> rfl
        refine va_newa (ty := ty) (a0 := (n.toNatClampNeg, .inl (fun _ => 0))) hX.1 hX.2.1 (hX.2.2.2.2.1 _ hw) hty hX.2.2.2.2.2.1 ha.1 (ab_D G w) hS (fun q hq => by have := hX.2.2.2.2.2.2.2.1; show G.2.1 ≤ q; omega) (fun cA => by rw [vp_cell_i, hdv]) hn0 rfl (Nat.le_trans (Nat.mul_le_mul hl6.2 hby) (Nat.le_of_ble_eq_true rfl)) hrm.1 hrm.2 hd (fun q cA H1 hK1 hP1 hD1 hS1 => ?_)
        have ecA : cA = G.1.2 t := by
          have h1 := hp s cA (hK1.2 7 (cA, ty) rfl).2
          have h2 := hp s (G.1.2 t) (hX.2.2.2.2.2.1.2 t _ ht0).2
          exact Option.some.inj (h1.symm.trans h2)
        subst ecA
        have e1 : ab_e G (.inr (.inl (t, List.replicate n.toNatClampNeg (0 : Int32)))) = .inl (G.1.2 t, n.toNatClampNeg, .inl (fun _ => 0)) := by
          show Sum.inl (G.1.2 t, (List.replicate n.toNatClampNeg (0 : Int32)).length, Sum.inl (fun j => (List.replicate n.toNatClampNeg (0 : Int32)).getD j 0)) = _
          rw [e0, List.length_replicate]
        rw [← e1] at hP1 hD1
        have k2 := ab_newJ hX hn ht hl6.1 hl kk hP1 hD1 hS1
        rw [hsz] at k2
        exact k2
      · cases hr
  · cases hr
theorem sn_newa {t index : Nat} {C : String} (hd : decode Y.1 pc = .ok (.anewarray index, 3)) (hcl : Cond.classLink Y.2.1 index C ∈ ab_GW) (hov : ∀ U, Z U → va_AO C U) (ht0 : (ab_tys G)[t]? = some (G.1.2 t, .object C)) (h : ab_Sd G Z d Y (pc + 3) k) : ab_Sd G Z d Y pc (o_newa t k) := by
  refine h.step fun lv st w r hr => ?_
  unfold o_newa at hr
  split at hr
  · rename_i n st'
    split at hr
    · cases hr
    · rename_i hn0
      split at hr
      · rename_i hl6
        refine ⟨lv, _, _, hr, ab_le.app w _, fun p l e R s m args below meth c Q n0 t0 N' T' hX hR hn ht hN hT kk ls H locs hl ha hS => ?_⟩
        have hrm := ab_room hR hn ht hN hT
        have hsz : ab_sz (.inr (.inr (t, List.replicate n.toNatClampNeg (none : Option Nat)))) = n.toNatClampNeg := List.length_replicate
        rw [hsz] at hrm
        have e0 : (fun j => ((List.replicate n.toNatClampNeg (none : Option Nat)).getD j none).map (ab_ad G)) = fun _ => none := by
          funext j
          rw [List.getD_eq_getElem?_getD, List.getElem?_replicate]
          split <;> rfl
        refine va_newq hX.1 hX.2.1 hX.2.2.2.1 (hX.2.2.2.2.1 _ hcl) (hov s hX.2.2.2.2.2.2.1) hX.2.2.2.2.2.1 ha.1 (ab_D G w) hS (fun q hq => by have := hX.2.2.2.2.2.2.2.1; show G.2.1 ≤ q; omega) hn0 rfl (Nat.le_trans (Nat.mul_le_mul_right 4 hl6.2) (Nat.le_of_ble_eq_true rfl)) hrm.1 hrm.2 hd (fun q cA H1 hK1 hP1 hD1 hS1 => ?_)
        have ecA : cA = G.1.2 t := by
          obtain ⟨k1, c1, a1, a2, a3, a4⟩ := (hK1.2 7 (cA, .object C) rfl).2
          obtain ⟨k2, c2, b1, b2, b3, b4⟩ := (hX.2.2.2.2.2.1.2 t _ ht0).2
          exact Option.some.inj (a4.symm.trans b4)
        subst ecA
        have e1 : ab_e G (.inr (.inr (t, List.replicate n.toNatClampNeg (none : Option Nat)))) = .inl (G.1.2 t, n.toNatClampNeg, .inr (.inr (.inr (.inr (fun _ => none))))) := by
          show Sum.inl (G.1.2 t, (List.replicate n.toNatClampNeg (none : Option Nat)).length, Sum.inr (Sum.inr (Sum.inr (Sum.inr (fun j => ((List.replicate n.toNatClampNeg (none : Option Nat)).getD j none).map (ab_ad G)))))) = _
          rw [e0, List.length_replicate]
        rw [← e1] at hP1 hD1
        have k2 := ab_newJ hX hn ht hl6.1 hl kk hP1 hD1 hS1
        rw [hsz] at k2
        exact k2
      · cases hr
  · cases hr
end ABH4
