/-! ===== a method that runs meets its contract ===== -/
abbrev ab_mY (M : ab_M) (pcs : List Nat) : ab_Y := (M.2.1, M.1.cls, M.2.2.1, M.2.2.2, M.1.name, pcs)
def ab_ex (nL : Nat → Nat) (Bk : Nat → ab_F → List ab_K) (F : Nat) : Nat → ab_F
  | 0 => fun _ _ _ => none
  | d + 1 => fun i As w => if As.all (fun v => v.category == 1) = true ∧ As.length ≤ nL i then ab_run (Bk i (ab_ex nL Bk F d)) F 0 (ab_ent As (nL i)) [] w else none
section ABE
variable {G : ab_G} {Z : State → Prop} {d : Nat}
theorem ab_sl (vs : List Value) (h : ∀ v ∈ vs, v.category = 1) : (lg_sl vs).length = vs.length := by
  induction vs with
  | nil => rfl
  | cons a r ih =>
    have h1 := h a List.mem_cons_self
    have h2 := ih (fun v hv => h v (List.mem_cons_of_mem _ hv))
    simp [lg_sl, h1] at h2 ⊢
    omega
theorem ab_met {M : ab_M} {pcs : List Nat} {B : List ab_K} {F : Nat} {As : List Value} {w w' : ab_W} {v : Option Value} (hy : plainName M.1.cls = true) (h0 : pcs[0]? = some 0)
    (hB : ab_BS G Z d (ab_mY M pcs) pcs B) (hcat : ∀ v ∈ As, v.category = 1) (hlen : As.length ≤ M.2.2.1) (hr : ab_run B F 0 (ab_ent As M.2.2.1) [] w = some (v, w')) (l : Launch) : Met l M.1 (ab_mw M) (ab_rm d w w') (ab_Pc G Z As w) (ab_Qc G v w') (w'.length - w.length) (ab_tot w' - ab_tot w) (ab_A G) := by
  refine Met.ofW (cc := M.2.1) (maxL := M.2.2.1) (ret := M.2.2.2) hy rfl ?_
  intro p e s m args below meth c s₁ BB hml hv
  obtain ⟨rfl, hat, hK, hZ, hst⟩ := hv
  have hle : ab_le w w' := ab_run_le (Y := ab_mY M pcs) hB _ _ _ _ _ _ hr
  have hts := atoms_spec (ws := ab_mw M) BB.pre
  have hX : ab_X G Z p s m (As.map (ab_cv G)).toArray meth c (ab_mY M pcs) w.length := ⟨BB.exec, BB.bytes, hml, findClass_of_methodNamed BB.named, fun w hw => hts w (List.mem_cons_of_mem _ hw), hK, hZ, hat.2.1, BB.returns, BB.notSynchronized, (name_of_methodNamed BB.named BB.method).1, hst⟩
  have hR : ab_Rm d w.length (ab_tot w) w'.length (ab_tot w') (headSpec (ab_mw M) (ab_rm d w w')).room := by
    obtain ⟨h1, h2⟩ := hle
    show d ≤ d ∧ 64 * d ≤ 64 * d ∧ w'.length ≤ w.length + (w'.length - w.length) ∧ ab_tot w' ≤ ab_tot w + (ab_tot w' - ab_tot w)
    omega
  have hr2 : meth.sig.returnType = M.2.2.2 := BB.returns
  have hlocks : meth.locks = false := BB.notSynchronized
  have hQ : ab_Rt G p l e (headSpec (ab_mw M) (ab_rm d w w')).room s m (As.map (ab_cv G)).toArray below meth c (MQ below (ab_Qc G v w') (As.map (ab_cv G)).toArray s (w'.length - w.length) (ab_tot w' - ab_tot w) (ab_A G)) (ab_mY M pcs) w.length (ab_tot w) v w' := by
    intro hok pc ls H locs ha hS hdg
    have hq : ∀ (o : Outcome) (t : State), o = .returned (v.map (ab_cv G)) → t.heap = H → ab_Qc G v w' (As.map (ab_cv G)).toArray s o t := fun o t ho ht => ⟨ho, by rw [ht]; exact ha, hS.F ht⟩
    change ab_ok M.2.2.2 v = true at hok
    change decode M.2.1 pc = _ at hdg
    generalize hrt : M.2.2.2 = rt at hok hr2
    cases rt with
    | none =>
      cases v with
      | some x => cases x <;> cases hok
      | none => exact W.vret BB.exec BB.bytes hr2 (fun t ht _ => hq _ t rfl ht) hS.2.2 hdg hlocks
    | some ty =>
      cases v with
      | none => cases ty <;> cases hok
      | some x =>
        cases ty with
        | int =>
          cases x with
          | int x => exact W.iret (v := x) BB.exec BB.bytes hr2 (fun t ht _ => hq _ t rfl ht) hS.2.2 hdg hlocks
          | _ => cases hok
        | boolean =>
          cases x with
          | int x =>
            have hx : x = 0 ∨ x = 1 := by simpa [ab_ok] using hok
            exact W.zret (v := x) BB.exec BB.bytes hr2 (by rcases hx with rfl | rfl <;> rfl) (fun t ht _ => hq _ t rfl ht) hS.2.2 hdg hlocks
          | _ => cases hok
        | char =>
          cases x with
          | int x =>
            have hx : x = vp_nar .char x := by simpa [ab_ok] using hok
            exact W.zret (v := x) BB.exec BB.bytes hr2 (by rw [show narrow .char (.int x) = .int (vp_nar .char x) from rfl, ← hx]) (fun t ht _ => hq _ t rfl ht) hS.2.2 hdg hlocks
          | _ => cases hok
        | byte =>
          cases x with
          | int x =>
            have hx : x = vp_nar .byte x := by simpa [ab_ok] using hok
            exact W.zret (v := x) BB.exec BB.bytes hr2 (by rw [show narrow .byte (.int x) = .int (vp_nar .byte x) from rfl, ← hx]) (fun t ht _ => hq _ t rfl ht) hS.2.2 hdg hlocks
          | _ => cases hok
        | long =>
          cases x with
          | long x => exact W.lret (v := x) BB.exec BB.bytes hr2 (fun t ht _ => hq _ t rfl ht) hS.2.2 hdg hlocks
          | _ => cases hok
        | object C =>
          cases x with
          | ref x => exact W.aret BB.exec BB.bytes hr2 (Or.inl ⟨C, rfl⟩) (Or.inr ⟨_, rfl⟩) (fun t ht _ => hq _ t rfl ht) hS.2.2 hdg hlocks
          | null => exact W.aret BB.exec BB.bytes hr2 (Or.inl ⟨C, rfl⟩) (Or.inl rfl) (fun t ht _ => hq _ t rfl ht) hS.2.2 hdg hlocks
          | _ => cases hok
        | array ty =>
          cases x with
          | ref x => exact W.aret BB.exec BB.bytes hr2 (Or.inr ⟨ty, rfl⟩) (Or.inr ⟨_, rfl⟩) (fun t ht _ => hq _ t rfl ht) hS.2.2 hdg hlocks
          | null => exact W.aret BB.exec BB.bytes hr2 (Or.inr ⟨ty, rfl⟩) (Or.inl rfl) (fun t ht _ => hq _ t rfl ht) hS.2.2 hdg hlocks
          | _ => cases hok
        | _ => cases x <;> cases hok
  obtain ⟨pc, hpc, hJ⟩ := ab_run_J (Y := ab_mY M pcs) hB hX hR hQ F 0 _ _ w hr (Nat.le_refl _) (Nat.le_refl _)
  cases h0.symm.trans hpc
  have hc2 : ∀ v ∈ As.map (ab_cv G), v.category = 1 := by
    intro v hv
    obtain ⟨u, hu, rfl⟩ := List.mem_map.mp hv
    exact (ab_cv_cat G u).trans (hcat u hu)
  have hl := lv_entry (As.map (ab_cv G)) (n := M.2.2.1) (by rw [ab_sl _ hc2, List.length_map]; exact hlen)
  rw [lg_entry_eq]
  have hJ2 := hJ _ s.heap [] (ab_has_sub hl (ab_lp_ent hcat)) hat va_S.rf
  rw [Nat.sub_self, Nat.sub_self] at hJ2
  exact hJ2
end ABE
