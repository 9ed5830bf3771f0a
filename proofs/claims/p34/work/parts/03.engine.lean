/-! ===== THE ENGINE: a small machine over a world of cells (a list), its code as functions; what it runs, the JVM runs ===== -/
abbrev ab_C : Type := (Nat × List Value) ⊕ ((Nat × List Int32) ⊕ (Nat × List (Option Nat)))
abbrev ab_W : Type := List ab_C
abbrev ab_L : Type := List (Option Value)
abbrev ab_R : Type := (Nat × ab_L × List Value × ab_W) ⊕ (Option Value × ab_W)
abbrev ab_K : Type := ab_L → List Value → ab_W → Option ab_R
abbrev ab_F : Type := Nat → List Value → ab_W → Option (Option Value × ab_W)
/-- class numbers and slots; array classes by their tag; the base address; addresses of what is outside -/
abbrev ab_G : Type := (va_G × (Nat → ClassId)) × (Nat × (Nat → Nat))
def ab_ad (G : ab_G) (k : Nat) : Nat := if k < 1000000 then G.2.1 + k else G.2.2 (k - 1000000)
def ab_cv (G : ab_G) (v : Value) : Value := match v with
  | .ref k => .ref (ab_ad G k)
  | .int x => .int x
  | .long x => .long x
  | .float x => .float x
  | .double x => .double x
  | .null => .null
  | .retAddr x => .retAddr x
theorem ab_cv_cat (G : ab_G) (v : Value) : (ab_cv G v).category = v.category := by cases v <;> rfl
def ab_e (G : ab_G) (c : ab_C) : va_E := match c with
  | .inl (ci, fs) => .inr (ci, fs.map (ab_cv G))
  | .inr (.inl (t, xs)) => .inl (G.1.2 t, xs.length, .inl (fun j => xs.getD j 0))
  | .inr (.inr (t, rs)) => .inl (G.1.2 t, rs.length, .inr (.inr (.inr (.inr (fun j => (rs.getD j none).map (ab_ad G))))))
def ab_ws (G : ab_G) (w : ab_W) : va_W := w.zipIdx.map (fun q => (G.2.1 + q.2, ab_e G q.1))
def ab_sz (c : ab_C) : Nat := match c with
  | .inl (_, fs) => fs.length
  | .inr (.inl (_, xs)) => xs.length
  | .inr (.inr (_, rs)) => rs.length
def ab_tot (w : ab_W) : Nat := (w.map ab_sz).sum
theorem ab_ws_get (G : ab_G) (w : ab_W) (k : Nat) : (ab_ws G w)[k]? = (w[k]?).map (fun c => (G.2.1 + k, ab_e G c)) := by
  unfold ab_ws
  rw [List.getElem?_map, List.getElem?_zipIdx]
  cases w[k]? with
  | none => rfl
  | some c => simp
theorem ab_ws_at {G : ab_G} {w : ab_W} {k : Nat} {c : ab_C} (h : w[k]? = some c) : (ab_ws G w)[k]? = some (G.2.1 + k, ab_e G c) := by
  rw [ab_ws_get, h]; rfl
theorem ab_ws_set (G : ab_G) (w : ab_W) (k : Nat) (c : ab_C) : ab_ws G (w.set k c) = (ab_ws G w).set k (G.2.1 + k, ab_e G c) := by
  apply List.ext_getElem?
  intro j
  rw [ab_ws_get, List.getElem?_set, List.getElem?_set, ab_ws_get]
  by_cases hj : k = j
  · subst hj
    by_cases hl : k < w.length
    · have : k < (ab_ws G w).length := by unfold ab_ws; simpa using hl
      simp [hl, this]
    · have : ¬ k < (ab_ws G w).length := by unfold ab_ws; simpa using hl
      simp [hl, this]
  · simp [hj]
theorem ab_ws_app (G : ab_G) (w : ab_W) (c : ab_C) : ab_ws G (w ++ [c]) = ab_ws G w ++ [(G.2.1 + w.length, ab_e G c)] := by
  unfold ab_ws
  rw [List.zipIdx_append]
  simp
theorem ab_D (G : ab_G) (w : ab_W) : va_D (fun q => G.2.1 ≤ q) (ab_ws G w) := by
  refine ⟨fun i j p q hi hj hpq => ?_, fun k q hk => ?_⟩
  · rw [ab_ws_get] at hi hj
    cases hwi : w[i]? with
    | none => rw [hwi] at hi; cases hi
    | some a =>
      cases hwj : w[j]? with
      | none => rw [hwj] at hj; cases hj
      | some b =>
        rw [hwi] at hi; rw [hwj] at hj
        cases hi; cases hj
        have h2 : G.2.1 + i = G.2.1 + j := hpq
        omega
  · rw [ab_ws_get] at hk
    cases hwk : w[k]? with
    | none => rw [hwk] at hk; cases hk
    | some a =>
      rw [hwk] at hk
      cases hk
      show G.2.1 ≤ G.2.1 + k
      omega
theorem ab_tot_set {w : ab_W} {k : Nat} {c c' : ab_C} (h : w[k]? = some c) (hs : ab_sz c' = ab_sz c) : ab_tot (w.set k c') = ab_tot w := by
  induction w generalizing k with
  | nil => simp at h
  | cons a l ih =>
    cases k with
    | zero =>
      simp at h
      subst h
      simp [ab_tot, hs]
    | succ k =>
      have h2 := ih (k := k) (by simpa using h)
      simp only [ab_tot] at h2 ⊢
      rw [List.set_cons_succ, List.map_cons, List.map_cons, List.sum_cons, List.sum_cons, h2]
theorem ab_tot_app (w : ab_W) (c : ab_C) : ab_tot (w ++ [c]) = ab_tot w + ab_sz c := by
  simp [ab_tot]
/-! locals -/
def ab_lp (G : ab_G) (lv : ab_L) : List (Nat × Value) := lv.zipIdx.filterMap (fun q => q.1.map (fun v => (q.2, ab_cv G v)))
theorem ab_lp_mem {G : ab_G} {lv : ab_L} {q : Nat × Value} : q ∈ ab_lp G lv ↔ ∃ v, lv[q.1]? = some (some v) ∧ q.2 = ab_cv G v := by
  unfold ab_lp
  rw [List.mem_filterMap]
  constructor
  · rintro ⟨⟨o, i⟩, h1, h2⟩
    rw [List.mem_zipIdx_iff_getElem?] at h1
    cases o with
    | none => cases h2
    | some v =>
      simp at h2
      subst h2
      exact ⟨v, h1, rfl⟩
  · rintro ⟨v, h1, h2⟩
    refine ⟨(some v, q.1), List.mem_zipIdx_iff_getElem?.mpr h1, ?_⟩
    simp [← h2]
def ab_kill (lv : ab_L) (i : Nat) : ab_L := match i with
  | 0 => lv
  | j + 1 => match lv[j]? with
    | some (some (.long _)) => lv.set j none
    | some (some (.double _)) => lv.set j none
    | _ => lv
def ab_st1 (lv : ab_L) (i : Nat) (v : Value) : ab_L := (ab_kill lv i).set i (some v)
def ab_st2 (lv : ab_L) (i : Nat) (v : Value) : ab_L := ((ab_kill lv i).set i (some v)).set (i + 1) none
theorem ab_kill_get {lv : ab_L} {i j : Nat} {v : Value} (h : (ab_kill lv i)[j]? = some (some v)) : lv[j]? = some (some v) ∧ ¬ (j + 1 = i ∧ v.category = 2) := by
  unfold ab_kill at h
  split at h
  · exact ⟨h, fun q => by omega⟩
  · rename_i i' k
    split at h
    · rename_i x hx
      by_cases hjk : k = j
      · subst hjk
        rw [List.getElem?_set_self (List.getElem?_eq_some_iff.mp hx).1] at h
        cases h
      · rw [List.getElem?_set_ne hjk] at h
        exact ⟨h, fun q => by omega⟩
    · rename_i x hx
      by_cases hjk : k = j
      · subst hjk
        rw [List.getElem?_set_self (List.getElem?_eq_some_iff.mp hx).1] at h
        cases h
      · rw [List.getElem?_set_ne hjk] at h
        exact ⟨h, fun q => by omega⟩
    · rename_i h1 h2
      refine ⟨h, fun q => ?_⟩
      obtain ⟨q1, q2⟩ := q
      have hjk : j = k := by omega
      subst hjk
      cases v with
      | long x => exact h1 x h
      | double x => exact h2 x h
      | int x => cases q2
      | float x => cases q2
      | null => cases q2
      | ref x => cases q2
      | retAddr x => cases q2
theorem ab_st1_sub {G : ab_G} {lv : ab_L} {i : Nat} {v : Value} : ∀ q ∈ ab_lp G (ab_st1 lv i v), q ∈ (i, ab_cv G v) :: (ab_lp G lv).filter (fun q => !(q.1 == i) && !(q.1 + 1 == i && q.2.category == 2)) := by
  intro q hq
  obtain ⟨u, h1, h2⟩ := ab_lp_mem.mp hq
  unfold ab_st1 at h1
  by_cases hi : i = q.1
  · subst hi
    by_cases hl : q.1 < (ab_kill lv q.1).length
    · rw [List.getElem?_set_self hl] at h1
      simp at h1
      subst h1
      have : q = (q.1, ab_cv G v) := by rw [← h2]
      rw [this]
      exact List.mem_cons_self
    · have h3 := (List.getElem?_eq_some_iff.mp h1).1
      rw [List.length_set] at h3
      exact absurd h3 hl
  · rw [List.getElem?_set_ne hi] at h1
    obtain ⟨h3, h4⟩ := ab_kill_get h1
    refine List.mem_cons_of_mem _ (List.mem_filter.mpr ⟨ab_lp_mem.mpr ⟨u, h3, h2⟩, ?_⟩)
    have e1 : (q.1 == i) = false := by simp; omega
    rw [e1, h2, ab_cv_cat]
    by_cases h5 : q.1 + 1 = i
    · have : ¬ u.category = 2 := fun h6 => h4 ⟨h5, h6⟩
      simp [this]
    · simp [h5]
theorem ab_has_sub {ls : Array Slot} {nL : Nat} {l l' : List (Nat × Value)} (h : lv_has ls nL l) (hs : ∀ q ∈ l', q ∈ l) : lv_has ls nL l' := ⟨h.1, h.2.1, fun q hq => h.2.2 q (hs q hq)⟩
theorem ab_has_get {G : ab_G} {ls : Array Slot} {nL : Nat} {lv : ab_L} {i : Nat} {v : Value} (h : lv_has ls nL (ab_lp G lv)) (hv : lv[i]? = some (some v)) : ls[i]? = some (.val (ab_cv G v)) := h.2.2 (i, ab_cv G v) (ab_lp_mem.mpr ⟨v, hv, rfl⟩)
