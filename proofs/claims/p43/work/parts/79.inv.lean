/-! ===== the law: what stays true ===== -/
def INV (m : Nat) (t : TS) : Prop := OK t ∧ WF t 69 ∧ WF t 70 ∧ (0 ≤ tI t 1 13 ∧ tI t 1 13 ≤ 9999) ∧ (0 ≤ tI t 12 13 ∧ tI t 12 13 ≤ 9999) ∧ (0 ≤ tA t 69 2 ∧ tA t 69 2 ≤ 9999) ∧ (0 ≤ tA t 70 2 ∧ tA t 70 2 ≤ 9999) ∧ (∀ i : Nat, i < 5 → tA t 86 i = 2 → 0 ≤ tA t 87 i ∧ tA t 87 i ≤ 24) ∧ tI t 1 10 = tA t 69 1 ∧ tI t 12 10 = tA t 70 1 ∧ tI t 0 9 = tI t 68 3 ∧ (tD t).length ≤ m
def SameC (t u : TS) : Prop := tI u 1 10 = tI t 1 10 ∧ tI u 1 13 = tI t 1 13 ∧ tI u 12 10 = tI t 12 10 ∧ tI u 12 13 = tI t 12 13 ∧ tI u 0 9 = tI t 0 9
def SameR (t u : TS) : Prop := (∀ i, tA u 69 i = tA t 69 i) ∧ (∀ i, tA u 70 i = tA t 70 i) ∧ (∀ i, tA u 86 i = tA t 86 i) ∧ (∀ i, tA u 87 i = tA t 87 i) ∧ tI u 68 3 = tI t 68 3
theorem SameC.rf (t : TS) : SameC t t := ⟨rfl, rfl, rfl, rfl, rfl⟩
theorem SameR.rf (t : TS) : SameR t t := ⟨fun _ => rfl, fun _ => rfl, fun _ => rfl, fun _ => rfl, rfl⟩
theorem fr_C {S : List (Nat × Nat)} {t u : TS} (f : FrD S t u) (h1 : (1, 10) ∉ S) (h2 : (1, 13) ∉ S) (h3 : (12, 10) ∉ S) (h4 : (12, 13) ∉ S) (h5 : (0, 9) ∉ S) : SameC t u := ⟨f.1 _ _ h1, f.1 _ _ h2, f.1 _ _ h3, f.1 _ _ h4, f.1 _ _ h5⟩
theorem fr_R {S : List (Nat × Nat)} {t u : TS} (f : FrD S t u) (h1 : (69, 100) ∉ S) (h2 : (70, 100) ∉ S) (h3 : (86, 100) ∉ S) (h4 : (87, 100) ∉ S) (h5 : (68, 3) ∉ S) : SameR t u := ⟨f.2.1 _ h1, f.2.1 _ h2, f.2.1 _ h3, f.2.1 _ h4, f.1 _ _ h5⟩
theorem WF.sm {t u : TS} {c : Nat} (h : WF t c) (q : ∀ i, tA u c i = tA t c i) : WF u c := by
  intro k hk
  rw [q 4] at hk
  have e : (fun j => tA u c (117 + 96 * k + j)) = (fun j => tA t c (117 + 96 * k + j)) := funext (fun j => q _)
  rw [q, e]
  exact h k hk
theorem sl_sm {t u : TS} (h : ∀ i : Nat, i < 5 → tA t 86 i = 2 → 0 ≤ tA t 87 i ∧ tA t 87 i ≤ 24) (a : ∀ i, tA u 86 i = tA t 86 i) (b : ∀ i, tA u 87 i = tA t 87 i) : ∀ i : Nat, i < 5 → tA u 86 i = 2 → 0 ≤ tA u 87 i ∧ tA u 87 i ≤ 24 := by
  intro i hi e
  rw [a] at e
  rw [b]
  exact h i hi e
def xz (xs : List Int32) (x : Int) : Int := (xs.getD x.toNat 0).toInt
theorem xz_jr (xs : List Int32) (x : Int) : -2147483648 ≤ xz xs x ∧ xz xs x ≤ 2147483647 := by
  have h1 := Int32.le_toInt (xs.getD x.toNat 0)
  have h2 := Int32.toInt_lt (xs.getD x.toNat 0)
  unfold xz
  omega
theorem w_xs {B : List ab_K} {N : Nat} {k : ab_K} {lv : ab_L} {st : List Value} {w : ab_W} {P : Option Value → ab_W → Prop} {x : Int} {xs : List Int32} {j : Nat} (hx : 0 ≤ x ∧ x < xs.length) (hl : xs.length ≤ 3072) (h : Rp B N k lv (.int (jI (xz xs x)) :: st) w P) : Rp B N (o_xald j xs k) lv (.int (jI x) :: .ref (1000000 + j) :: st) w P := by
  have hr : jr x := ⟨by omega, by omega⟩
  refine Rp_map (fun _ => rb_xald (jI_nn (by omega) hr) (x := jI (xz xs x)) ?_) h
  have hn : x.toNat < xs.length := by omega
  rw [jI_clamp (by omega) hr]
  unfold xz
  rw [jI_self, List.getD_eq_getElem?_getD, List.getElem?_eq_getElem hn]
  rfl
theorem w_xlen {B : List ab_K} {N : Nat} {k : ab_K} {lv : ab_L} {st : List Value} {w : ab_W} {P : Option Value → ab_W → Prop} {xs : List Int32} {j : Nat} (h : Rp B N k lv (.int (jI (xs.length : Int)) :: st) w P) : Rp B N (o_xlen j xs k) lv (.ref (1000000 + j) :: st) w P := by
  rw [jI_nat] at h
  exact Rp_map (fun _ => rb_xlen) h
