/-! ===== the heap's instructions ===== -/
def ab_gf (w : ab_W) (a ci fi : Nat) : Option Value := match w[a]? with
  | some (.inl (c, fs)) => if c = ci then fs[fi]? else none
  | _ => none
def ab_pf (w : ab_W) (a ci fi : Nat) (v : Value) : Option ab_W := match w[a]? with
  | some (.inl (c, fs)) => if c = ci ∧ fi < fs.length then some (w.set a (.inl (c, fs.set fi v))) else none
  | _ => none
def ab_ia (w : ab_W) (a t : Nat) : Option (List Int32) := match w[a]? with
  | some (.inr (.inl (t', xs))) => if t' = t then some xs else none
  | _ => none
def ab_ra (w : ab_W) (a t : Nat) : Option (List (Option Nat)) := match w[a]? with
  | some (.inr (.inr (t', xs))) => if t' = t then some xs else none
  | _ => none
def ab_rv (o : Option Nat) : Value := match o with
  | some a => .ref a
  | none => .null
theorem ab_gf_some {w : ab_W} {a ci fi : Nat} {v : Value} (h : ab_gf w a ci fi = some v) : ∃ fs, w[a]? = some (.inl (ci, fs)) ∧ fs[fi]? = some v := by
  unfold ab_gf at h
  split at h
  · rename_i c fs hw
    split at h
    · rename_i hc; subst hc; exact ⟨fs, hw, h⟩
    · cases h
  · cases h
theorem ab_pf_some {w w' : ab_W} {a ci fi : Nat} {v : Value} (h : ab_pf w a ci fi v = some w') : ∃ fs, w[a]? = some (.inl (ci, fs)) ∧ fi < fs.length ∧ w' = w.set a (.inl (ci, fs.set fi v)) := by
  unfold ab_pf at h
  split at h
  · rename_i c fs hw
    split at h
    · rename_i hc
      obtain ⟨hc, hf⟩ := hc
      subst hc
      exact ⟨fs, hw, hf, (Option.some.inj h).symm⟩
    · cases h
  · cases h
theorem ab_ia_some {w : ab_W} {a t : Nat} {xs : List Int32} (h : ab_ia w a t = some xs) : w[a]? = some (.inr (.inl (t, xs))) := by
  unfold ab_ia at h
  split at h
  · rename_i t' ys hw
    split at h
    · rename_i hc; subst hc; rw [hw, Option.some.inj h]
    · cases h
  · cases h
theorem ab_ra_some {w : ab_W} {a t : Nat} {xs : List (Option Nat)} (h : ab_ra w a t = some xs) : w[a]? = some (.inr (.inr (t, xs))) := by
  unfold ab_ra at h
  split at h
  · rename_i t' ys hw
    split at h
    · rename_i hc; subst hc; rw [hw, Option.some.inj h]
    · cases h
  · cases h
def o_getf (ci fi : Nat) (k : ab_K) : ab_K := fun lv st w => match st with
  | .ref a :: st' => match ab_gf w a ci fi with
    | some v => k lv (v :: st') w
    | none => none
  | _ => none
def o_putI (ci fi : Nat) (k : ab_K) : ab_K := fun lv st w => match st with
  | .int x :: .ref a :: st' => match ab_pf w a ci fi (.int x) with
    | some w' => k lv st' w'
    | none => none
  | _ => none
def o_putZ (ci fi : Nat) (k : ab_K) : ab_K := fun lv st w => match st with
  | .int x :: .ref a :: st' => if x = 0 ∨ x = 1 then (match ab_pf w a ci fi (.int x) with
    | some w' => k lv st' w'
    | none => none) else none
  | _ => none
def o_putA (ci fi : Nat) (k : ab_K) : ab_K := fun lv st w => match st with
  | .ref b :: .ref a :: st' => match ab_pf w a ci fi (.ref b) with
    | some w' => k lv st' w'
    | none => none
  | .null :: .ref a :: st' => match ab_pf w a ci fi .null with
    | some w' => k lv st' w'
    | none => none
  | _ => none
def o_iald (t : Nat) (k : ab_K) : ab_K := fun lv st w => match st with
  | .int i :: .ref a :: st' => match ab_ia w a t with
    | some xs => if i < 0 then none else (match xs[i.toNatClampNeg]? with
      | some x => k lv (.int x :: st') w
      | none => none)
    | none => none
  | _ => none
def o_iast (t : Nat) (f : Int32 → Int32) (k : ab_K) : ab_K := fun lv st w => match st with
  | .int x :: .int i :: .ref a :: st' => match ab_ia w a t with
    | some xs => if i < 0 then none else (if i.toNatClampNeg < xs.length then k lv st' (w.set a (.inr (.inl (t, xs.set i.toNatClampNeg (f x))))) else none)
    | none => none
  | _ => none
def o_aald (t : Nat) (k : ab_K) : ab_K := fun lv st w => match st with
  | .int i :: .ref a :: st' => match ab_ra w a t with
    | some xs => if i < 0 then none else (match xs[i.toNatClampNeg]? with
      | some x => k lv (ab_rv x :: st') w
      | none => none)
    | none => none
  | _ => none
def o_aast (t ci : Nat) (k : ab_K) : ab_K := fun lv st w => match st with
  | .ref v :: .int i :: .ref a :: st' => match ab_ra w a t with
    | some xs => if i < 0 then none else (match w[v]? with
      | some (.inl (c, _)) => if c = ci ∧ i.toNatClampNeg < xs.length then k lv st' (w.set a (.inr (.inr (t, xs.set i.toNatClampNeg (some v))))) else none
      | _ => none)
    | none => none
  | .null :: .int i :: .ref a :: st' => match ab_ra w a t with
    | some xs => if i < 0 then none else (if i.toNatClampNeg < xs.length then k lv st' (w.set a (.inr (.inr (t, xs.set i.toNatClampNeg none)))) else none)
    | none => none
  | _ => none
def o_alenI (t : Nat) (k : ab_K) : ab_K := fun lv st w => match st with
  | .ref a :: st' => match ab_ia w a t with
    | some xs => k lv (.int (Int32.ofNat xs.length) :: st') w
    | none => none
  | _ => none
def o_new (ci : Nat) (fs : List Value) (k : ab_K) : ab_K := fun lv st w => if w.length < 1000000 then k lv (.ref w.length :: st) (w ++ [.inl (ci, fs)]) else none
def o_newi (t : Nat) (k : ab_K) : ab_K := fun lv st w => match st with
  | .int n :: st' => if n < 0 then none else (if w.length < 1000000 ∧ n.toNatClampNeg ≤ 100000 then k lv (.ref w.length :: st') (w ++ [.inr (.inl (t, List.replicate n.toNatClampNeg 0))]) else none)
  | _ => none
def o_newa (t : Nat) (k : ab_K) : ab_K := fun lv st w => match st with
  | .int n :: st' => if n < 0 then none else (if w.length < 1000000 ∧ n.toNatClampNeg ≤ 100000 then k lv (.ref w.length :: st') (w ++ [.inr (.inr (t, List.replicate n.toNatClampNeg none))]) else none)
  | _ => none
def ab_cl (st : List Value) : Bool := decide ((st.map fun v => v.category).sum ≤ 8)
def o_oinit (k : ab_K) : ab_K := fun lv st w => match st with
  | .ref _ :: st' => if ab_cl st' = true then k lv st' w else none
  | _ => none
def o_m2 (f : Int32 → Int32 → Int32) (k : ab_K) : ab_K := fun lv st w => match st with
  | .int y :: .int x :: st' => if ab_cl st' = true then k lv (.int (f x y) :: st') w else none
  | _ => none
def o_m1 (f : Int32 → Int32) (k : ab_K) : ab_K := fun lv st w => match st with
  | .int x :: st' => if ab_cl st' = true then k lv (.int (f x) :: st') w else none
  | _ => none
def ab_cp (xs ys : List Int32) (sp dp n : Nat) : List Int32 := ys.take dp ++ ((xs.drop sp).take n ++ ys.drop (dp + n))
def o_acopy (k : ab_K) : ab_K := fun lv st w => match st with
  | .int n :: .int dp :: .ref b :: .int sp :: .ref a :: st' => match ab_ia w a 0, ab_ia w b 0 with
    | some xs, some ys => if sp < 0 ∨ dp < 0 ∨ n < 0 then none else (if sp.toNatClampNeg + n.toNatClampNeg ≤ xs.length ∧ dp.toNatClampNeg + n.toNatClampNeg ≤ ys.length ∧ ab_cl st' = true then k lv st' (w.set b (.inr (.inl (0, ab_cp xs ys sp.toNatClampNeg dp.toNatClampNeg n.toNatClampNeg)))) else none)
    | _, _ => none
  | _ => none
theorem ab_lt {w : ab_W} {a : Nat} {c : ab_C} (h : w[a]? = some c) : a < w.length := (List.getElem?_eq_some_iff.mp h).1
theorem ab_ad_in {G : ab_G} {w : ab_W} {H : Heap} {a : Nat} {c : ab_C} (ha : ab_at G w H) (h : w[a]? = some c) : ab_ad G a = G.2.1 + a := if_pos (Nat.lt_of_lt_of_le (ab_lt h) ha.2.2)
section ABW
variable {G : ab_G} {p : Program} {l : Launch} {e : Env} {R : Room} {s : State} {m : MethodId} {args : Array Value} {below : List Frame} {meth : Method} {c : Code} {H : Heap} {locs : List Loc} {cells slots : Nat} {Q : State → Prop} {g : JFrame}
theorem ab_sizeW (k : H.size ≤ s.heap.size + cells → W p l e R s m args below meth c H locs cells slots Q g) : W p l e R s m args below meth c H locs cells slots Q g := fun T hT X => k (by rw [← hT]; exact X.heapSize) T hT X
theorem ab_P_lt {w : ab_W} {ws : va_W} (hP : va_P G.1.1 vwCl (ab_ws G w ++ ws) H) {a : Nat} (h : a < w.length) : G.2.1 + a < H.size := by
  have h1 : w[a]? = some w[a] := List.getElem?_eq_getElem h
  have h2 : (ab_ws G w ++ ws)[a]? = some (G.2.1 + a, ab_e G w[a]) := by
    rw [List.getElem?_append_left (by unfold ab_ws; simpa using h)]
    exact ab_ws_at h1
  exact (hP a _ h2).lt
theorem ab_atW {w : ab_W} {n0 : Nat} (hs : s.heap.size = G.2.1 + n0) (hn : n0 ≤ w.length) (hl : w.length ≤ 1000000) (hP : va_P G.1.1 vwCl (ab_ws G w) H) (hS : va_S (ab_A G) s.heap H locs) (k : ab_at G w H → W p l e R s m args below meth c H locs (w.length - n0) slots Q g) : W p l e R s m args below meth c H locs (w.length - n0) slots Q g := by
  refine ab_sizeW fun hz => k ⟨hP, ?_, hl⟩
  have h1 := hS.1
  rcases Nat.eq_zero_or_pos w.length with h0 | h0
  · omega
  · have h2 := ab_P_lt (ws := []) (by rw [List.append_nil]; exact hP) (show w.length - 1 < w.length by omega)
    omega
theorem ab_newq {w : ab_W} {q n0 : Nat} {x : va_E} (hs : s.heap.size = G.2.1 + n0) (hn : n0 ≤ w.length) (hP : va_P G.1.1 vwCl (ab_ws G w ++ [(q, x)]) H) (hD : va_D (ab_A G) (ab_ws G w ++ [(q, x)])) (hz : H.size ≤ s.heap.size + (w.length - n0 + 1)) : q = G.2.1 + w.length := by
  have hlen : (ab_ws G w).length = w.length := by unfold ab_ws; simp
  have hq : (ab_ws G w ++ [(q, x)])[w.length]? = some (q, x) := by
    rw [List.getElem?_append_right (by rw [hlen]; exact Nat.le_refl _), hlen, Nat.sub_self]; rfl
  have h1 : q < H.size := (hP _ _ hq).lt
  have h2 : G.2.1 ≤ q := hD.2 _ _ hq
  rcases Nat.lt_or_ge q (G.2.1 + w.length) with h3 | h3
  · exfalso
    have h4 : q - G.2.1 < w.length := by omega
    have h5 : (ab_ws G w ++ [(q, x)])[q - G.2.1]? = some (G.2.1 + (q - G.2.1), ab_e G w[q - G.2.1]) := by
      rw [List.getElem?_append_left (by rw [hlen]; exact h4)]
      exact ab_ws_at (List.getElem?_eq_getElem h4)
    have h6 := hD.1 _ _ _ _ h5 hq (show G.2.1 + (q - G.2.1) = q by omega)
    omega
  · omega
end ABW
