/-! ===== running ===== -/
def ab_run (B : List ab_K) : Nat → Nat → ab_L → List Value → ab_W → Option (Option Value × ab_W)
  | 0, _, _, _, _ => none
  | n + 1, b, lv, st, w => match B[b]? with
    | none => none
    | some k => match k lv st w with
      | none => none
      | some (.inr r) => some r
      | some (.inl (b', lv', st', w')) => ab_run B n b' lv' st' w'
def ab_ent (As : List Value) (nL : Nat) : ab_L := As.map some ++ List.replicate (nL - As.length) none
section ABR
variable {G : ab_G} {Z : State → Prop} {d : Nat} {Y : ab_Y} {B : List ab_K}
/-- every block is what the bytes do from its place on -/
def ab_BS (G : ab_G) (Z : State → Prop) (d : Nat) (Y : ab_Y) (pcs : List Nat) (B : List ab_K) : Prop := match pcs, B with
  | [], [] => True
  | pc :: pcs, k :: B => ab_Sd G Z d Y pc k ∧ ab_BS G Z d Y pcs B
  | _, _ => False
theorem ab_BS.get {G : ab_G} {Z : State → Prop} {d : Nat} {Y : ab_Y} : ∀ {pcs : List Nat} {B : List ab_K}, ab_BS G Z d Y pcs B → ∀ {b : Nat} {k : ab_K}, B[b]? = some k → ∃ pc, pcs[b]? = some pc ∧ ab_Sd G Z d Y pc k
  | [], [], _, b, k, hb => by simp at hb
  | [], _ :: _, h, _, _, _ => h.elim
  | _ :: _, [], h, _, _, _ => h.elim
  | pc :: pcs, k0 :: B, h, b, k, hb => by
    cases b with
    | zero =>
      rw [List.getElem?_cons_zero] at hb
      cases hb
      exact ⟨pc, rfl, h.1⟩
    | succ b =>
      rw [List.getElem?_cons_succ] at hb
      exact ab_BS.get h.2 hb
theorem ab_run_le (h : ab_BS G Z d Y Y.2.2.2.2.2 B) : ∀ (n b : Nat) (lv : ab_L) (st : List Value) (w : ab_W) (r : Option Value × ab_W), ab_run B n b lv st w = some r → ab_le w r.2
  | 0, _, _, _, _, _, hr => by cases hr
  | n + 1, b, lv, st, w, r, hr => by
    unfold ab_run at hr
    split at hr
    · cases hr
    · rename_i k hk
      obtain ⟨pc, -, hs⟩ := h.get hk
      split at hr
      · cases hr
      · rename_i r' hkr
        cases hr
        exact hs.1 _ _ _ _ hkr
      · rename_i b' lv' st' w' hkr
        exact ab_le.trans (hs.1 _ _ _ _ hkr) (ab_run_le h n b' lv' st' w' r hr)
theorem ab_run_J (h : ab_BS G Z d Y Y.2.2.2.2.2 B) {p : Program} {l : Launch} {e : Env} {R : Room} {s : State} {m : MethodId} {args : Array Value} {below : List Frame} {meth : Method} {c : Code} {Q : State → Prop} {n0 t0 : Nat} {v : Option Value} {wf : ab_W}
    (hX : ab_X G Z p s m args meth c Y n0) (hR : ab_Rm d n0 t0 wf.length (ab_tot wf) R) (hQ : ab_Rt G p l e R s m args below meth c Q Y n0 t0 v wf) : ∀ (n b : Nat) (lv : ab_L) (st : List Value) (w : ab_W), ab_run B n b lv st w = some (v, wf) → n0 ≤ w.length → t0 ≤ ab_tot w → ∃ pc, Y.2.2.2.2.2[b]? = some pc ∧ ab_J G p l e R s m args below meth c Q Y n0 t0 pc lv st w
  | 0, _, _, _, _, hr, _, _ => by cases hr
  | n + 1, b, lv, st, w, hr, hn, ht => by
    unfold ab_run at hr
    split at hr
    · cases hr
    · rename_i k hk
      obtain ⟨pc, hpc, hs⟩ := h.get hk
      refine ⟨pc, hpc, ?_⟩
      split at hr
      · cases hr
      · rename_i r' hkr
        cases hr
        exact hs.2 p l e R s m args below meth c Q n0 t0 wf.length (ab_tot wf) hX hR lv st w _ hkr hn ht (Nat.le_refl _) (Nat.le_refl _) hQ
      · rename_i b' lv' st' w' hkr
        have hle := hs.1 _ _ _ _ hkr
        have hle2 := ab_run_le h n b' lv' st' w' _ hr
        have ih := ab_run_J h hX hR hQ n b' lv' st' w' hr (Nat.le_trans hn hle.1) (Nat.le_trans ht hle.2)
        refine hs.2 p l e R s m args below meth c Q n0 t0 wf.length (ab_tot wf) hX hR lv st w _ hkr hn ht hle2.1 hle2.2 ?_
        intro pc' hpc'
        obtain ⟨pc2, h1, h2⟩ := ih
        cases h1.symm.trans hpc'
        exact h2
/-- the locals at a method's entry -/
theorem ab_lp_ent {G : ab_G} {As : List Value} {nL : Nat} (h1 : ∀ v ∈ As, v.category = 1) : ∀ q ∈ ab_lp G (ab_ent As nL), q ∈ lv_args 0 (As.map (ab_cv G)) := by
  intro q hq
  obtain ⟨v, h2, h3⟩ := ab_lp_mem.mp hq
  unfold ab_ent at h2
  have hlt : q.1 < As.length := by
    rcases Nat.lt_or_ge q.1 As.length with h | h
    · exact h
    · rw [List.getElem?_append_right (by simpa using h), List.getElem?_replicate] at h2
      split at h2 <;> cases h2
  rw [List.getElem?_append_left (by simpa using hlt), List.getElem?_map] at h2
  have key : ∀ (l : List Value) (k j : Nat) (u : Value), (∀ v ∈ l, v.category = 1) → l[j]? = some u → (k + j, ab_cv G u) ∈ lv_args k (l.map (ab_cv G)) := by
    intro l
    induction l with
    | nil => intro k j u _ h; simp at h
    | cons a r ih =>
      intro k j u hc h
      have hca : (ab_cv G a).category = 1 := (ab_cv_cat G a).trans (hc a List.mem_cons_self)
      rw [List.map_cons]
      simp only [lv_args, hca]
      cases j with
      | zero =>
        rw [List.getElem?_cons_zero] at h
        cases h
        exact List.mem_cons_self
      | succ j =>
        rw [List.getElem?_cons_succ] at h
        have := ih (k + 1) j u (fun v hv => hc v (List.mem_cons_of_mem _ hv)) h
        rw [show k + 1 + j = k + (j + 1) by omega] at this
        exact List.mem_cons_of_mem _ (by simpa using this)
  cases hv : As[q.1]? with
  | none => rw [hv] at h2; cases h2
  | some u =>
    rw [hv] at h2
    have e1 : u = v := Option.some.inj (Option.some.inj h2)
    subst e1
    have := key As 0 q.1 u h1 hv
    rw [Nat.zero_add, ← h3] at this
    exact this
end ABR
