/-! comparing worlds by program -/
def ab_veq (a b : Value) : Bool := match a, b with
  | .int x, .int y => x == y
  | .ref x, .ref y => x == y
  | .null, .null => true
  | _, _ => false
theorem ab_veq_eq {a b : Value} (h : ab_veq a b = true) : a = b := by
  cases a <;> cases b <;> simp_all [ab_veq]
def ab_leq {α : Type} (f : α → α → Bool) : List α → List α → Bool
  | [], [] => true
  | a :: l, b :: m => f a b && ab_leq f l m
  | _, _ => false
theorem ab_leq_eq {α : Type} {f : α → α → Bool} (hf : ∀ a b, f a b = true → a = b) : ∀ {l m : List α}, ab_leq f l m = true → l = m
  | [], [], _ => rfl
  | [], _ :: _, h => by cases h
  | _ :: _, [], h => by cases h
  | a :: l, b :: m, h => by
    simp only [ab_leq, Bool.and_eq_true] at h
    rw [hf a b h.1, ab_leq_eq hf h.2]
def ab_oeq (a b : Option Nat) : Bool := match a, b with
  | some x, some y => x == y
  | none, none => true
  | _, _ => false
theorem ab_oeq_eq {a b : Option Nat} (h : ab_oeq a b = true) : a = b := by
  cases a <;> cases b <;> simp_all [ab_oeq]
def ab_ieq (a b : Int32) : Bool := a == b
theorem ab_ieq_eq {a b : Int32} (h : ab_ieq a b = true) : a = b := by simpa [ab_ieq] using h
def ab_ceq (a b : ab_C) : Bool := match a, b with
  | .inl (c, fs), .inl (c', fs') => c == c' && ab_leq ab_veq fs fs'
  | .inr (.inl (t, xs)), .inr (.inl (t', xs')) => t == t' && ab_leq ab_ieq xs xs'
  | .inr (.inr (t, xs)), .inr (.inr (t', xs')) => t == t' && ab_leq ab_oeq xs xs'
  | _, _ => false
theorem ab_ceq_eq (a b : ab_C) (h : ab_ceq a b = true) : a = b := by
  match a, b, h with
  | .inl (c, fs), .inl (c', fs'), h =>
    simp only [ab_ceq, Bool.and_eq_true, beq_iff_eq] at h
    rw [h.1, ab_leq_eq (fun _ _ => ab_veq_eq) h.2]
  | .inr (.inl (t, xs)), .inr (.inl (t', xs')), h =>
    simp only [ab_ceq, Bool.and_eq_true, beq_iff_eq] at h
    rw [h.1, ab_leq_eq (fun _ _ => ab_ieq_eq) h.2]
  | .inr (.inr (t, xs)), .inr (.inr (t', xs')), h =>
    simp only [ab_ceq, Bool.and_eq_true, beq_iff_eq] at h
    rw [h.1, ab_leq_eq (fun _ _ => ab_oeq_eq) h.2]
  | .inl (_, _), .inr (.inl (_, _)), h => cases h
  | .inl (_, _), .inr (.inr (_, _)), h => cases h
  | .inr (.inl (_, _)), .inl (_, _), h => cases h
  | .inr (.inr (_, _)), .inl (_, _), h => cases h
  | .inr (.inl (_, _)), .inr (.inr (_, _)), h => cases h
  | .inr (.inr (_, _)), .inr (.inl (_, _)), h => cases h
def ab_weq (a b : ab_W) : Bool := ab_leq ab_ceq a b
theorem ab_weq_eq {a b : ab_W} (h : ab_weq a b = true) : a = b := ab_leq_eq ab_ceq_eq h
def ab_lveq (a b : Option Value) : Bool := match a, b with
  | some x, some y => ab_veq x y
  | none, none => true
  | _, _ => false
theorem ab_lveq_eq (a b : Option Value) (h : ab_lveq a b = true) : a = b := by
  cases a <;> cases b <;> simp_all [ab_lveq]
  exact ab_veq_eq h
def ab_req (a b : ab_R) : Bool := match a, b with
  | .inl (i, lv, st, w), .inl (i', lv', st', w') => i == i' && (ab_leq ab_lveq lv lv' && (ab_leq ab_veq st st' && ab_weq w w'))
  | .inr (v, w), .inr (v', w') => ab_lveq v v' && ab_weq w w'
  | _, _ => false
theorem ab_req_eq {a b : ab_R} (h : ab_req a b = true) : a = b := by
  match a, b, h with
  | .inl (i, lv, st, w), .inl (i', lv', st', w'), h =>
    simp only [ab_req, Bool.and_eq_true, beq_iff_eq] at h
    obtain ⟨h1, h2, h3, h4⟩ := h
    rw [h1, ab_leq_eq ab_lveq_eq h2, ab_leq_eq (fun _ _ => ab_veq_eq) h3, ab_weq_eq h4]
  | .inr (v, w), .inr (v', w'), h =>
    simp only [ab_req, Bool.and_eq_true] at h
    rw [ab_lveq_eq _ _ h.1, ab_weq_eq h.2]
  | .inl (_, _, _, _), .inr (_, _), h => cases h
  | .inr (_, _), .inl (_, _, _, _), h => cases h
/-- a static of which only is known that it is a reference or null: both ways must come to the same -/
def o_getq (k : ab_K) : ab_K := fun lv st w => match k lv (.null :: st) w, k lv (.ref (1000000 + 20) :: st) w with
  | some r, some r' => if ab_req r r' = true then some r else none
  | _, _ => none
theorem sn_getq {G : ab_G} {Z : State → Prop} {d : Nat} {Y : ab_Y} {pc : Nat} {k : ab_K} {index : Nat} {C n ds : String} (hd : decode Y.1 pc = .ok (.getstatic index, 3)) (hw : Cond.fieldLink Y.2.1 index C n ds ∈ ab_GW) (hz : ∀ U, Z U → va_Z C n ds .null (ab_A G) U U.heap ∨ va_Z C n ds (.ref (G.2.2 20)) (ab_A G) U U.heap) (h : ab_Sd G Z d Y (pc + 3) k) : ab_Sd G Z d Y pc (o_getq k) := by
  have key : ∀ lv st w r, o_getq k lv st w = some r → k lv (.null :: st) w = some r ∧ k lv (.ref (1000000 + 20) :: st) w = some r := by
    intro lv st w r hr
    unfold o_getq at hr
    split at hr
    · rename_i r1 r2 h1 h2
      split at hr
      · rename_i he
        have e := ab_req_eq he
        obtain rfl := Option.some.inj hr
        exact ⟨h1, by rw [h2, e]⟩
      · cases hr
    · cases hr
  refine ⟨fun lv st w r hr => h.1 _ _ _ _ (key _ _ _ _ hr).1, ?_⟩
  intro p l e R s m args below meth c Q n0 t0 N T hX hR lv st w r hr hn ht hN hT hG ls H locs hl ha hS
  obtain ⟨k1, k2⟩ := key _ _ _ _ hr
  rcases hz s hX.2.2.2.2.2.2.1 with z | z
  · exact va_gets hX.1 hX.2.1 z hS hX.2.2.2.1 (hX.2.2.2.2.1 _ hw) (fun _ q => q) hd (h.2 p l e R s m args below meth c Q n0 t0 N T hX hR lv _ w r k1 hn ht hN hT hG ls H locs hl ha hS)
  · have q := h.2 p l e R s m args below meth c Q n0 t0 N T hX hR lv _ w r k2 hn ht hN hT hG ls H locs hl ha hS
    change W p l e R s m args below meth c H locs _ _ Q (F0 m (pc + 3) ls (.ref (ab_ad G (1000000 + 20)) :: st.map (ab_cv G))) at q
    rw [ab_ad_ext] at q
    exact va_gets hX.1 hX.2.1 z hS hX.2.2.2.1 (hX.2.2.2.2.1 _ hw) (fun _ q => q) hd q
