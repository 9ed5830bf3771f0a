section
/-! ===== what a text gives, as a function of its code ===== -/
def twF (x a b : Int) : Int := if x = -1 then (if ¬ a = 0 ∨ ¬ b = 0 then 1 else 0) else if x = -2 then (if ¬ a = 0 ∧ ¬ b = 0 then 1 else 0) else if x = -3 then (if a < b then 1 else 0) else if x = -4 then (if a = b then 1 else 0) else if x = -5 then (if b < a then 1 else 0) else if x = -6 then nrm (a + b) else if x = -7 then nrm (a - b) else if x = -8 then nrm (a * b) else (if b = 0 then 0 else fZ (fun x y => x / y) a b)
def faF (f0 f1 f2 i : Int) : Int := if i = 0 then f0 else if i = 1 then f1 else f2
def opF (f0 f1 f2 x : Int) : Int := if x < 10000 then x else faF f0 f1 f2 (x - 10000)
def ev1 (x f0 f1 f2 : Int) (q : Int × (Nat → Int)) : Int × (Nat → Int) :=
  if 0 ≤ x then (q.1 + 1, upF q.2 q.1.toNat (opF f0 f1 f2 x)) else if x = -10 then (q.1, upF q.2 (q.1 - 1).toNat (if q.2 (q.1 - 1).toNat = 0 then 1 else 0)) else (q.1 - 1, upF q.2 (q.1 - 2).toNat (twF x (q.2 (q.1 - 2).toNat) (q.2 (q.1 - 1).toNat)))
def evF (X : Nat → Int) (f0 f1 f2 : Int) (S : Nat → Int) : Nat → Int × (Nat → Int)
  | 0 => (0, S)
  | k + 1 => ev1 (X k) f0 f1 f2 (evF X f0 f1 f2 S k)
def evR (X : Nat → Int) (f0 f1 f2 : Int) (n : Nat) : Int := (evF X f0 f1 f2 (fun _ => 0) n).2 0
theorem evF_top (X : Nat → Int) (f0 f1 f2 : Int) (S : Nat → Int) : ∀ k : Nat, (evF X f0 f1 f2 S k).1 = depF X k
  | 0 => rfl
  | k + 1 => by
    have ih := evF_top X f0 f1 f2 S k
    unfold evF ev1 depF
    rw [← ih]
    split
    · rfl
    · split <;> rfl
theorem depF_nn {X : Nat → Int} {n : Nat} (w : wfC X n) : ∀ k : Nat, k ≤ n → 0 ≤ depF X k ∧ (1 ≤ k → 1 ≤ depF X k)
  | 0, _ => ⟨Int.le_refl 0, fun h => by omega⟩
  | k + 1, h => by
    have ih := depF_nn w k (by omega)
    obtain ⟨w1, w2⟩ := w k (by omega)
    unfold depF
    split
    · omega
    · split
      · have := w1 (by omega); omega
      · have := w2 (by omega) (by assumption); omega
theorem evF_gb {X : Nat → Int} {n : Nat} {f0 f1 f2 : Int} {S S' : Nat → Int} (w : wfC X n) : ∀ k : Nat, k ≤ n → ∀ i : Nat, (i : Int) < depF X k → (evF X f0 f1 f2 S k).2 i = (evF X f0 f1 f2 S' k).2 i
  | 0, _, i, hi => by
    have : depF X 0 = 0 := rfl
    omega
  | k + 1, h, i, hi => by
    have ih := evF_gb (f0 := f0) (f1 := f1) (f2 := f2) (S := S) (S' := S') w k (by omega)
    obtain ⟨w1, w2⟩ := w k (by omega)
    have a := evF_top X f0 f1 f2 S k
    have b := evF_top X f0 f1 f2 S' k
    unfold depF at hi
    unfold evF ev1
    rw [a, b]
    by_cases e : 0 ≤ X k
    · rw [if_pos e] at hi
      rw [if_pos e, if_pos e]
      show upF _ _ _ i = upF _ _ _ i
      unfold upF
      by_cases q : i = (depF X k).toNat
      · rw [if_pos q, if_pos q]
      · rw [if_neg q, if_neg q]; exact ih i (by omega)
    · rw [if_neg e] at hi
      rw [if_neg e, if_neg e]
      have d1 := w1 (by omega)
      by_cases e2 : X k = -10
      · rw [if_pos e2] at hi
        rw [if_pos e2, if_pos e2]
        show upF _ _ _ i = upF _ _ _ i
        unfold upF
        rw [ih (depF X k - 1).toNat (by omega), ih i (by omega)]
      · rw [if_neg e2] at hi
        have d2 := w2 (by omega) e2
        rw [if_neg e2, if_neg e2]
        show upF _ _ _ i = upF _ _ _ i
        unfold upF
        rw [ih (depF X k - 1).toNat (by omega), ih (depF X k - 2).toNat (by omega), ih i (by omega)]
theorem evF_res {X : Nat → Int} {n : Nat} {f0 f1 f2 : Int} {S : Nat → Int} (w : wfC X n) (hn : 1 ≤ n) : (evF X f0 f1 f2 S n).2 0 = evR X f0 f1 f2 n := evF_gb w n (Nat.le_refl _) 0 ((depF_nn w n (Nat.le_refl _)).2 hn)
theorem evF_cg {X X' : Nat → Int} {f0 f1 f2 f2' : Int} {S : Nat → Int} : ∀ {n : Nat}, (∀ i, i < n → X i = X' i ∧ (f2 = f2' ∨ X' i < 10002)) → evF X f0 f1 f2 S n = evF X' f0 f1 f2' S n
  | 0, _ => rfl
  | n + 1, h => by
    obtain ⟨h1, h2⟩ := h n (by omega)
    have e : opF f0 f1 f2 (X' n) = opF f0 f1 f2' (X' n) := by
      rcases h2 with h2 | h2
      · rw [h2]
      · unfold opF faF
        (repeat' split) <;> first | rfl | omega
    unfold evF ev1
    rw [evF_cg (fun i hi => h i (by omega)), h1, e]
theorem evR_cg {X X' : Nat → Int} {f0 f1 f2 f2' : Int} {n : Nat} (h : ∀ i, i < n → X i = X' i ∧ (f2 = f2' ∨ X' i < 10002)) : evR X f0 f1 f2 n = evR X' f0 f1 f2' n := by
  unfold evR
  rw [evF_cg h]
def cpF (X : Nat → Int) : Nat → Int
  | 0 => 0
  | k + 1 => cpF X k + (if 0 ≤ X k then 1 else 0)
theorem cpF_le (X : Nat → Int) (k : Nat) : ∀ j : Nat, cpF X k ≤ cpF X (k + j)
  | 0 => Int.le_refl _
  | j + 1 => by
    have := cpF_le X k j
    show cpF X k ≤ cpF X (k + j) + (if 0 ≤ X (k + j) then 1 else 0)
    split <;> omega
theorem dep_cp (X : Nat → Int) : ∀ k : Nat, depF X k ≤ cpF X k
  | 0 => Int.le_refl 0
  | k + 1 => by
    have := dep_cp X k
    unfold depF cpF
    split
    · omega
    · split <;> omega
/-! what a text's object holds -/
def xsF (x : TX) (i : Nat) : Int := (x.2.2.1.getD i 0).toInt
def xvF (x : TX) (i : Nat) : Int := (x.2.2.2.1.getD i 0).toInt
def xcF (x : TX) : Nat → Int := fun i => trF (xsF x i, xvF x i)
def xkF (x : TX) : Nat → Int := fun i => (x.2.2.2.2.getD i 0).toInt
def vsP (q s v : Int) : Prop := (s = 0 ∧ 0 ≤ v ∧ v < 10000) ∨ (s = 1 ∧ 0 ≤ v ∧ v ≤ 2 ∧ (q = 1 → v ≤ 1)) ∨ s = 33 ∨ ¬ sgF s = 0
def GVx (x : TX) : Prop := x.2.2.2.1.length = x.2.2.1.length ∧ 1 ≤ x.2.2.1.length ∧ (∀ i, i < x.2.2.1.length → vsP x.1 (xsF x i) (xvF x i)) ∧ wfC (xcF x) x.2.2.1.length ∧ cpF (xcF x) x.2.2.1.length ≤ (x.2.2.2.2.length : Int)
def evX (x : TX) (f0 f1 f2 : Int) : Int := evR (xcF x) f0 f1 f2 x.2.2.1.length
theorem sg_b (s : Int) : -9 ≤ sgF s ∧ sgF s ≤ 0 := by
  unfold sgF
  (repeat' split) <;> omega
theorem sg_c {s : Int} (h : ¬ sgF s = 0) : s = 124 ∨ s = 38 ∨ s = 60 ∨ s = 61 ∨ s = 62 ∨ s = 43 ∨ s = 45 ∨ s = 42 ∨ s = 47 := by
  unfold sgF at h
  (repeat' split at h) <;> omega
theorem vs_c {q s v : Int} (h : vsP q s v) : (s = 0 ∧ 0 ≤ v ∧ v < 10000 ∧ trF (s, v) = v) ∨ (s = 1 ∧ 0 ≤ v ∧ v ≤ 2 ∧ trF (s, v) = 10000 + v) ∨ (s = 33 ∧ trF (s, v) = -10) ∨ (¬ s = 0 ∧ ¬ s = 1 ∧ ¬ s = 33 ∧ ¬ sgF s = 0 ∧ trF (s, v) = sgF s ∧ -9 ≤ sgF s ∧ sgF s < 0) := by
  unfold trF
  simp only []
  rcases h with h | h | h | h
  · left; rw [if_pos h.1]; exact ⟨h.1, h.2.1, h.2.2, rfl⟩
  · right; left; rw [if_neg (by omega), if_pos h.1]; exact ⟨h.1, h.2.1, h.2.2.1, rfl⟩
  · right; right; left; rw [if_neg (by omega), if_neg (by omega), if_pos h]; exact ⟨h, rfl⟩
  · right; right; right
    have c := sg_c h
    have b := sg_b s
    rw [if_neg (by omega), if_neg (by omega), if_neg (by omega)]
    exact ⟨by omega, by omega, by omega, h, rfl, b.1, by omega⟩
theorem Dhd_1 {x y : TX} (h : Dhd x = Dhd y) : x.1 = y.1 ∧ x.2.1 = y.2.1 ∧ x.2.2.1 = y.2.2.1 ∧ x.2.2.2.1 = y.2.2.2.1 ∧ x.2.2.2.2.length = y.2.2.2.2.length :=
  ⟨congrArg (fun q => q.1) h, congrArg (fun q => q.2.1) h, congrArg (fun q => q.2.2.1) h, congrArg (fun q => q.2.2.2.1) h, congrArg (fun q => q.2.2.2.2) h⟩
theorem xcF_hd {x y : TX} (h : Dhd x = Dhd y) : xcF x = xcF y := by
  obtain ⟨h1, h2, h3, h4, h5⟩ := Dhd_1 h
  unfold xcF xsF xvF
  rw [h3, h4]
theorem GVx.hd {x y : TX} (g : GVx x) (h : Dhd x = Dhd y) : GVx y := by
  have e := xcF_hd h
  obtain ⟨h1, h2, h3, h4, h5⟩ := Dhd_1 h
  obtain ⟨g1, g2, g3, g4, g5⟩ := g
  unfold GVx
  rw [← e, ← h1, ← h3, ← h4, ← h5]
  refine ⟨g1, g2, fun i hi => ?_, g4, g5⟩
  have := g3 i hi
  unfold xsF xvF at this ⊢
  rw [← h3, ← h4]
  exact this
theorem evX_hd {x y : TX} (h : Dhd x = Dhd y) (f0 f1 f2 : Int) : evX x f0 f1 f2 = evX y f0 f1 f2 := by
  unfold evX
  rw [xcF_hd h, (Dhd_1 h).2.2.1]
def GD (t : TS) : Prop := ∀ j, j < (tD t).length → GVx (tx t j)
theorem tx_hd {t u : TS} (h : (tD u).map Dhd = (tD t).map Dhd) (j : Nat) : Dhd (tx u j) = Dhd (tx t j) := by
  have h1 : ((tD u).map Dhd)[j]? = ((tD t).map Dhd)[j]? := by rw [h]
  rw [List.getElem?_map, List.getElem?_map] at h1
  show Dhd ((tD u).getD j _) = Dhd ((tD t).getD j _)
  rw [List.getD_eq_getElem?_getD, List.getD_eq_getElem?_getD]
  revert h1
  cases (tD u)[j]? <;> cases (tD t)[j]? <;> intro h1 <;> simp_all
theorem hd_len {t u : TS} (h : (tD u).map Dhd = (tD t).map Dhd) : (tD u).length = (tD t).length := by
  have := congrArg List.length h
  simpa using this
theorem GD.hd {t u : TS} (g : GD t) (h : (tD u).map Dhd = (tD t).map Dhd) : GD u := by
  intro j hj
  rw [hd_len h] at hj
  exact (g j hj).hd (tx_hd h j).symm
theorem GD.fr {S : List (Nat × Nat)} {t u : TS} (g : GD t) (f : Fr S t u) : GD u := g.hd f.2.2.2.2
/-! the law that counts -/
def lwF (t : TS) (b : Nat) (q : Nat) : Option Nat := if 0 ≤ tA t (b + 10) q ∧ tA t (b + 10) q ≤ tI t b 11 - 1 then tT t (b + 9) (tA t (b + 10) q).toNat else none
def exF (t : TS) (o : Option Nat) (d f0 f1 f2 : Int) : Int := match o with
  | none => d
  | some r => evX (tx t ((r - 92) / 4)) f0 f1 f2
theorem exF_hd {t u : TS} (h : (tD u).map Dhd = (tD t).map Dhd) (o : Option Nat) (d f0 f1 f2 : Int) : exF u o d f0 f1 f2 = exF t o d f0 f1 f2 := by
  cases o with
  | none => rfl
  | some r => exact evX_hd (tx_hd h _) _ _ _
theorem exF_j (t : TS) (j : Nat) (d f0 f1 f2 : Int) : exF t (some (92 + 4 * j)) d f0 f1 f2 = evX (tx t j) f0 f1 f2 := by
  show evX (tx t ((92 + 4 * j - 92) / 4)) f0 f1 f2 = _
  rw [show (92 + 4 * j - 92) / 4 = j by omega]
def pdF (t : TS) (o : Option Nat) (k s r h : Int) : Int := dkF k (max 0 (min 99 (exF t o (15 * s) s r h)))
theorem pdF_hd {t u : TS} (e : (tD u).map Dhd = (tD t).map Dhd) (o : Option Nat) (k s r h : Int) : pdF u o k s r h = pdF t o k s r h := by
  unfold pdF
  rw [exF_hd e]
/-- how dark a stone of a table is, on a side (0 left, 1 right), in a row -/
def dkC (t : TS) (b s r u : Nat) : Int := pdF t (lwF t b 0) (tA t (b + 1) s) (if u = 0 then tA t (b + 2) s else tA t (b + 3) s) r (hvF (tA t (b + 1) s) (tA t (b + 2) s) (tA t (b + 3) s))
def DK (t : TS) (b : Nat) (n : Int) : Prop := ∀ s r u : Nat, (s : Int) < n → r < 4 → u < 2 → tA t (b + 8) ((s * 4 + r) * 2 + u) = dkC t b s r u
theorem lwF_mv {t u : TS} {b : Nat} (h10 : ∀ i, tA u (b + 10) i = tA t (b + 10) i) (h11 : tI u b 11 = tI t b 11) (h9 : ∀ i, tT u (b + 9) i = tT t (b + 9) i) (q : Nat) : lwF u b q = lwF t b q := by
  unfold lwF
  rw [h10, h11, h9]
theorem dkC_mv {t u : TS} {b : Nat} (h10 : ∀ i, tA u (b + 10) i = tA t (b + 10) i) (h11 : tI u b 11 = tI t b 11) (h9 : ∀ i, tT u (b + 9) i = tT t (b + 9) i) (hd : (tD u).map Dhd = (tD t).map Dhd) {s : Nat} (h1 : tA u (b + 1) s = tA t (b + 1) s) (h2 : tA u (b + 2) s = tA t (b + 2) s) (h3 : tA u (b + 3) s = tA t (b + 3) s) (r v : Nat) : dkC u b s r v = dkC t b s r v := by
  unfold dkC
  rw [lwF_mv h10 h11 h9, h1, h2, h3, pdF_hd hd]
/-! ===== lists of code: what a reader's output is ===== -/
def dpL : List Int → Int
  | [] => 0
  | x :: O => if 0 ≤ x then dpL O + 1 else if x = -10 then dpL O else dpL O - 1
def wfL : List Int → Prop
  | [] => True
  | x :: O => wfL O ∧ (x < 0 → 1 ≤ dpL O) ∧ (x < 0 → ¬ x = -10 → 2 ≤ dpL O)
def cpL : List Int → Int
  | [] => 0
  | x :: O => cpL O + (if 0 ≤ x then 1 else 0)
def nbL : List Int → Int
  | [] => 0
  | a :: S => nbL S + (if -9 ≤ a then 1 else 0)
def ngL (S : List Int) : Prop := ∀ a ∈ S, -11 ≤ a ∧ a < 0
theorem nbL_nn : ∀ S, 0 ≤ nbL S
  | [] => Int.le_refl 0
  | a :: S => by
    have := nbL_nn S
    unfold nbL
    split <;> omega
theorem ngL.tl {a : Int} {S : List Int} (h : ngL (a :: S)) : ngL S := fun x hx => h x (List.mem_cons_of_mem _ hx)
theorem ngL.tail {S : List Int} (h : ngL S) : ngL S.tail := fun x hx => h x (List.mem_of_mem_tail hx)
def LI (S O : List Int) (a w : Int) : Prop := wfL O ∧ dpL O = nbL S + (1 - w) ∧ ngL S ∧ cpL O = a ∧ (w = 0 ∨ w = 1) ∧ (w = 0 → 1 ≤ a)
theorem LI.st {b a : Int} : ∀ {S O : List Int}, LI S O a 0 → LI (stF b S O).1 (stF b S O).2 a 0
  | [], O, h => h
  | x :: S, O, h => by
    unfold stF
    split
    · rename_i c
      refine LI.st ?_
      obtain ⟨h1, h2, h3, h4, h5, h6⟩ := h
      have r := h3 x List.mem_cons_self
      have n0 := nbL_nn S
      unfold nbL at h2
      refine ⟨?_, ?_, h3.tl, ?_, h5, h6⟩
      · refine ⟨h1, fun _ => ?_, fun _ q => ?_⟩
        · split at h2 <;> omega
        · rw [if_pos (by omega)] at h2; omega
      · unfold dpL
        rw [if_neg (by omega)]
        by_cases q : x = -10
        · rw [if_pos q]
          rw [if_neg (by omega)] at h2
          omega
        · rw [if_neg q]
          rw [if_pos (by omega)] at h2
          omega
      · unfold cpL
        rw [if_neg (by omega)]
        omega
    · exact h
theorem nm_b (q x : Int) : -1 ≤ nmF q x ∧ nmF q x ≤ 2 ∧ (q = 1 → nmF q x ≤ 1) := by
  unfold nmF
  (repeat' split) <;> omega
theorem LI.opd {S O : List Int} {a v : Int} (h : LI S O a 1) (hv : 0 ≤ v) : LI S (v :: O) (a + 1) 0 := by
  obtain ⟨h1, h2, h3, h4, h5, h6⟩ := h
  have n0 := nbL_nn S
  have c0 : ∀ O, 0 ≤ cpL O := by
    intro O
    induction O with
    | nil => exact Int.le_refl 0
    | cons x O ih => unfold cpL; split <;> omega
  refine ⟨⟨h1, fun q => by omega, fun q => by omega⟩, ?_, h3, ?_, Or.inl rfl, fun _ => ?_⟩
  · unfold dpL
    rw [if_pos hv]
    omega
  · unfold cpL
    rw [if_pos hv]
    omega
  · have := c0 O
    omega
theorem LI.psh {S O : List Int} {a x : Int} (h : LI S O a 1) (hx : x = -10 ∨ x = -11) : LI (x :: S) O a 1 := by
  obtain ⟨h1, h2, h3, h4, h5, h6⟩ := h
  refine ⟨h1, ?_, fun y hy => ?_, h4, h5, h6⟩
  · unfold nbL
    rw [if_neg (by omega)]
    omega
  · rcases List.mem_cons.mp hy with e | e
    · omega
    · exact h3 y e
theorem LI.bin {S O : List Int} {a x : Int} (h : LI S O a 0) (hx : -9 ≤ x ∧ x < 0) : LI (x :: S) O a 1 := by
  obtain ⟨h1, h2, h3, h4, h5, h6⟩ := h
  refine ⟨h1, ?_, fun y hy => ?_, h4, Or.inr rfl, fun q => absurd q (by decide)⟩
  · unfold nbL
    rw [if_pos (by omega)]
    omega
  · rcases List.mem_cons.mp hy with e | e
    · omega
    · exact h3 y e
end
section
/-! ===== what a reader gives out is sound ===== -/
theorem stF0_hd : ∀ (S O : List Int), (stF 0 S O).1 = [] ∨ ∃ R, (stF 0 S O).1 = -11 :: R
  | [], O => Or.inl rfl
  | x :: S, O => by
    unfold stF
    by_cases c : ¬ x = -11 ∧ 0 ≤ rkF x
    · rw [if_pos c]
      exact stF0_hd S (x :: O)
    · rw [if_neg c]
      have : 0 ≤ rkF x := by
        unfold rkF
        (repeat' split) <;> decide
      have e : x = -11 := by omega
      exact Or.inr ⟨S, by rw [e]⟩
theorem LI.cl {S O : List Int} {a : Int} (h : LI S O a 0) : LI (stF 0 S O).1.tail (stF 0 S O).2 a 0 := by
  have k := LI.st (b := 0) h
  rcases stF0_hd S O with e | ⟨R, e⟩
  · rw [e] at k ⊢; exact k
  · rw [e] at k ⊢
    obtain ⟨h1, h2, h3, h4, h5, h6⟩ := k
    unfold nbL at h2
    rw [if_neg (by decide)] at h2
    exact ⟨h1, by show dpL _ = nbL R + _; omega, h3.tl, h4, h5, h6⟩
theorem ruF_all {g : Nat → Int} {n s : Int} : ∀ (k : Nat) (p i : Int), p ≤ i → i < ruF g n s k p → soF g n i = s
  | 0, p, i, h1, h2 => by
    have e : ruF g n s 0 p = p := rfl
    omega
  | k + 1, p, i, h1, h2 => by
    unfold ruF at h2
    split at h2
    · rename_i c
      by_cases e : i = p
      · subst e; exact c.2
      · exact ruF_all k (p + 1) i (by omega) h2
    · omega
def CN (g : Nat → Int) (c : PCu) : Prop := 0 ≤ c.1 ∧ (c.2.1 = 2 → ∀ i : Int, c.1 ≤ i → i < c.2.2.1 → 48 ≤ g i.toNat ∧ g i.toNat ≤ 57)
theorem CN.st {g : Nat → Int} {n : Int} {c : PCu} (h : 0 ≤ c.2.2.1 ∧ c.2.2.1 ≤ n) : CN g (stC g n c) := by
  have a := skF_b (g := g) (n := n) 97 c.2.2.1 h.2
  refine ⟨by show 0 ≤ skF g n 97 c.2.2.1; omega, fun e i h1 h2 => ?_⟩
  have e' : soF g n (skF g n 97 c.2.2.1) = 2 := e
  have h1' : skF g n 97 c.2.2.1 ≤ i := h1
  have h2' : i < spF g n (skF g n 97 c.2.2.1) := h2
  unfold spF at h2'
  rw [e', if_neg (by decide), if_neg (by decide)] at h2'
  have q : soF g n i = 2 := by
    by_cases k : i = skF g n 97 c.2.2.1
    · rw [k]; exact e'
    · exact ruF_all 97 _ i (by omega) h2'
  have := so2_iff.mpr q
  omega
theorem numF_r {g : Nat → Int} {a : Nat} : ∀ (j : Nat), (∀ i, i < j → 48 ≤ g (a + i) ∧ g (a + i) ≤ 57) → 0 ≤ numF g a j ∧ (j ≤ 1 → numF g a j ≤ 9) ∧ (j ≤ 2 → numF g a j ≤ 99) ∧ (j ≤ 3 → numF g a j ≤ 999) ∧ (j ≤ 4 → numF g a j ≤ 9999)
  | 0, _ => by
    have e : numF g a 0 = 0 := rfl
    omega
  | j + 1, h => by
    have ih := numF_r j (fun i hi => h i (by omega))
    have d := h j (by omega)
    have e : numF g a (j + 1) = 10 * numF g a j + g (a + j) - 48 := rfl
    have z : j = 0 → numF g a j = 0 := fun q => by subst q; rfl
    refine ⟨by omega, fun q => ?_, fun q => ?_, fun q => ?_, fun q => ?_⟩
    · have := z (by omega); omega
    · have := ih.2.1 (by omega); omega
    · have := ih.2.2.1 (by omega); omega
    · have := ih.2.2.2.1 (by omega); omega
theorem CN.num {g : Nat → Int} {n : Int} {c : PCu} (h : CN g c) (w : WC n c) (h2 : c.2.1 = 2) (h4 : c.2.2.1 - c.1 ≤ 4) : 0 ≤ numF g c.1.toNat (c.2.2.1 - c.1).toNat ∧ numF g c.1.toNat (c.2.2.1 - c.1).toNat ≤ 9999 := by
  have w2 := w.2.1
  have h0 := h.1
  have r := numF_r (g := g) (a := c.1.toNat) (c.2.2.1 - c.1).toNat (fun i hi => by
    have := h.2 h2 (c.1 + i) (by omega) (by omega)
    rw [show (c.1 + (i : Int)).toNat = c.1.toNat + i by omega] at this
    exact this)
  exact ⟨r.1, r.2.2.2.2 (by omega)⟩
/-! the stack of signs -/
theorem syr_LI {g : Nat → Int} {n q : Int} : ∀ (k : Nat) (c : PCu) (S O : List Int) (a w p kk : Int) (T : Nat → Int) (r : PRs), LI S O a w → WC n c → CN g c → syr g n q k (c, S, O, a, w, p, kk, T) = some r → r.1 = -1 → wfL r.2.1 ∧ cpL r.2.1 = r.2.2 ∧ 1 ≤ r.2.2
  | 0, _, _, _, _, _, _, _, _, _, _, _, _, h, _ => by cases h
  | k + 1, c, S, O, a, w, p, kk, T, r, li, wc, cn, h, h1 => by
    have wn := WC.nx (g := g) wc
    have cn2 : CN g (stC g n c) := CN.st ⟨by have := wc.1; have := wc.2.1; omega, wc.2.2.1⟩
    have hw := li.2.2.2.2.1
    have h' : (match sy1 g n q c S O a w p kk T with
      | .inl s' => syr g n q k s'
      | .inr r => some r) = some r := h
    unfold sy1 at h'
    by_cases c1 : w = 0 ∧ tkF c = 0
    · rw [if_pos c1] at h'
      have e : (if p = 0 then ((-1, (stF 0 S O).2, a) : PRs) else (c.1, [], 0)) = r := by simpa using h'
      by_cases c2 : p = 0
      · rw [if_pos c2] at e
        subst e
        have li0 : LI S O a 0 := by rw [← c1.1]; exact li
        have l2 := LI.st (b := 0) li0
        exact ⟨l2.1, l2.2.2.2.1, l2.2.2.2.2.2 rfl⟩
      · rw [if_neg c2] at e
        subst e
        exact absurd h1 (by have := wc.1; show ¬ c.1 = -1; omega)
    · rw [if_neg c1] at h'
      by_cases c2 : ¬ w = 0
      · have lw : LI S O a 1 := by rw [show (1 : Int) = w by omega]; exact li
        rw [if_pos c2] at h'
        by_cases c3 : siF g n c = 33 ∧ kk < 8
        · rw [if_pos c3] at h'
          exact syr_LI k _ _ _ _ _ _ _ _ r (lw.psh (Or.inl rfl)) wn.1 cn2 h' h1
        · rw [if_neg c3] at h'
          by_cases c4 : siF g n c = 40 ∧ p < 8
          · rw [if_pos c4] at h'
            exact syr_LI k _ _ _ _ _ _ _ _ r (lw.psh (Or.inr rfl)) wn.1 cn2 h' h1
          · rw [if_neg c4] at h'
            by_cases c5 : tkF c = 2 ∨ (tkF c = 1 ∧ c.2.2.1 - c.1 = 1 ∧ 0 ≤ nmF q (g c.1.toNat))
            · rw [if_pos c5] at h'
              have hv : 0 ≤ opV g q c := by
                unfold opV
                by_cases t2 : tkF c = 2
                · rw [if_pos t2]
                  have u : c.2.1 = 2 ∧ c.2.2.1 - c.1 ≤ 4 := by
                    unfold tkF at t2
                    (repeat' split at t2) <;> omega
                  exact (cn.num wc u.1 u.2).1
                · rw [if_neg t2]
                  have := nm_b q (g c.1.toNat)
                  omega
              exact syr_LI k _ _ _ _ _ _ _ _ r (LI.st (lw.opd hv)) wn.1 cn2 h' h1
            · rw [if_neg c5] at h'
              have e : ((c.1, [], 0) : PRs) = r := by simpa using h'
              subst e
              exact absurd h1 (by have := wc.1; show ¬ c.1 = -1; omega)
      · have lw : LI S O a 0 := by rw [show (0 : Int) = w by omega]; exact li
        rw [if_neg c2] at h'
        by_cases c3 : siF g n c = 41 ∧ 0 < p
        · rw [if_pos c3] at h'
          exact syr_LI k _ _ _ _ _ _ _ _ r (LI.st lw.cl) wn.1 cn2 h' h1
        · rw [if_neg c3] at h'
          by_cases c4 : sgF (siF g n c) = 0 ∨ (rkF (sgF (siF g n c)) = 3 ∧ ¬ T p.toNat = 0)
          · rw [if_pos c4] at h'
            have e : ((c.1, [], 0) : PRs) = r := by simpa using h'
            subst e
            exact absurd h1 (by have := wc.1; show ¬ c.1 = -1; omega)
          · rw [if_neg c4] at h'
            have b := sg_b (siF g n c)
            exact syr_LI k _ _ _ _ _ _ _ _ r ((LI.st lw).bin ⟨b.1, by omega⟩) wn.1 cn2 h' h1
/-! the descent -/
def PVx (g : Nat → Int) (n q : Int) (x : PPs) : Prop := (∀ p ∈ x.2.1, vsP q p.1 p.2) ∧ WC n x.1 ∧ CN g x.1
theorem PVx.em {g : Nat → Int} {n q s v : Int} {x : PPs} (h : PVx g n q x) (hv : vsP q s v) : PVx g n q (emP s v x) := by
  refine ⟨fun p hp => ?_, h.2⟩
  rcases List.mem_cons.mp hp with e | e
  · rw [e]; exact hv
  · exact h.1 p e
theorem PVx.stp {g : Nat → Int} {n q : Int} {x : PPs} (h : PVx g n q x) : PVx g n q (stP g n x) := ⟨h.1, (WC.nx h.2.1).1, CN.st ⟨by have := h.2.1.1; have := h.2.1.2.1; omega, h.2.1.2.2.1⟩⟩
theorem PVx.ft {g : Nat → Int} {n q : Int} {x : PPs} (h : PVx g n q x) : PVx g n q (ftP x) := h
theorem PVx.cl {g : Nat → Int} {n q : Int} {x : PPs} (h : PVx g n q x) : PVx g n q (clP g n x) := by
  unfold clP
  split
  · exact h
  · split
    · exact h.stp
    · exact h.ft
theorem PVx.op {g : Nat → Int} {n q : Int} {x : PPs} (h : PVx g n q x) : PVx g n q (opP g n q x) := by
  have k := h.stp
  unfold opP
  split
  · exact h.ft
  · split
    · rename_i c
      have r := h.2.2.num h.2.1 c.1 c.2
      refine ⟨fun p hp => ?_, k.2⟩
      rcases List.mem_cons.mp hp with e | e
      · rw [e]; exact Or.inl ⟨rfl, r.1, by show numF _ _ _ < 10000; omega⟩
      · exact h.1 p e
    · split
      · rename_i c
        have r := nm_b q (g x.1.1.toNat)
        refine ⟨fun p hp => ?_, k.2⟩
        rcases List.mem_cons.mp hp with e | e
        · rw [e]
          have c3 := c.2.2
          exact Or.inr (Or.inl ⟨rfl, by show 0 ≤ nmF q _; omega, r.2.1, r.2.2⟩)
        · exact h.1 p e
      · exact h.ft
theorem PVx.lp {g : Nat → Int} {n q l : Int} {f : PPs → PPs} (hl : 0 ≤ l) (hf : ∀ x, PVx g n q x → PVx g n q (f x)) : ∀ (i : Nat) (x : PPs), PVx g n q x → PVx g n q (LPx g n f l i x)
  | 0, x, h => h
  | i + 1, x, h => by
    unfold LPx
    split
    · rename_i c
      exact PVx.lp hl hf i _ (PVx.em (hf _ h.stp) (Or.inr (Or.inr (Or.inr (lv_s c.2 hl).1))))
    · exact h
theorem RD_PV {g : Nat → Int} {n q : Int} : ∀ (M : Nat) (l o k : Int) (x : PPs), 0 ≤ l → PVx g n q x → PVx g n q (RD g n q M l o k x)
  | 0, _, _, _, _, _, h => h
  | M + 1, l, o, k, x, hl, h => by
    unfold RD
    split
    · split
      · exact PVx.em (RD_PV M 5 o (k + 1) _ (by decide) h.stp) (Or.inr (Or.inr (Or.inl rfl)))
      · split
        · exact PVx.cl (RD_PV M 0 (o + 1) k _ (by decide) h.stp)
        · exact h.op
    · exact PVx.lp hl (fun y hy => RD_PV M (l + 1) o k y (by omega) hy) _ _ (RD_PV M (l + 1) o k x (by omega) h)
theorem ls1_lsP (f g : Nat → Int) : ∀ n : Nat, (lsP f g n).map trF = ls1 (fun i => trF (f i, g i)) n
  | 0 => rfl
  | n + 1 => by
    show trF (f n, g n) :: (lsP f g n).map trF = _
    rw [ls1_lsP f g n]
    rfl
theorem lsP_mem (f g : Nat → Int) : ∀ (n i : Nat), i < n → (f i, g i) ∈ lsP f g n
  | 0, _, h => by omega
  | n + 1, i, h => by
    by_cases e : i = n
    · subst e; exact List.mem_cons_self
    · exact List.mem_cons_of_mem _ (lsP_mem f g n i (by omega))
theorem dpL_ls (X : Nat → Int) : ∀ n : Nat, dpL (ls1 X n) = depF X n
  | 0 => rfl
  | n + 1 => by
    show (if 0 ≤ X n then dpL (ls1 X n) + 1 else _) = _
    rw [dpL_ls X n]
    rfl
theorem cpL_ls (X : Nat → Int) : ∀ n : Nat, cpL (ls1 X n) = cpF X n
  | 0 => rfl
  | n + 1 => by
    show cpL (ls1 X n) + _ = _
    rw [cpL_ls X n]
    rfl
theorem wfL_ls {X : Nat → Int} : ∀ {n : Nat}, wfL (ls1 X n) → wfC X n
  | 0, _ => fun j hj => by omega
  | n + 1, h => by
    have h' : wfL (ls1 X n) ∧ (X n < 0 → 1 ≤ dpL (ls1 X n)) ∧ (X n < 0 → ¬ X n = -10 → 2 ≤ dpL (ls1 X n)) := h
    rw [dpL_ls] at h'
    exact wfC_push (wfL_ls h'.1) h'.2
theorem ls1_inj {f g : Nat → Int} : ∀ {n m : Nat}, ls1 f n = ls1 g m → n = m ∧ ∀ i, i < n → f i = g i
  | 0, 0, _ => ⟨rfl, fun i hi => by omega⟩
  | 0, m + 1, h => by cases h
  | n + 1, 0, h => by cases h
  | n + 1, m + 1, h => by
    have h' : f n :: ls1 f n = g m :: ls1 g m := h
    injection h' with h1 h2
    obtain ⟨e, k⟩ := ls1_inj h2
    subst e
    refine ⟨rfl, fun i hi => ?_⟩
    by_cases q : i = n
    · subst q; exact h1
    · exact k i (by omega)
theorem row_tk {f : Nat → Int} {n i : Nat} (hn : n ≤ 96) (hi : i < n) (hr : -2147483648 ≤ f i ∧ f i ≤ 2147483647) : (((row 96 f).take n).getD i 0).toInt = f i := by
  rw [List.getD_eq_getElem?_getD, List.getElem?_take, if_pos hi, row_get (by omega)]
  show (jI (f i)).toInt = f i
  exact nrm_id hr
/-- a text read to its end is sound -/
theorem rd_gv {g : Nat → Int} {n q : Int} (hn : n ≤ 96) {c : PCu} (w : WC n c) (cn : CN g c) {f e : Nat → Int} {m : Nat} {st : List Int32} {a : Int} (hm : m ≤ 95) (h1 : (RD g n q 80 0 0 0 (c, [], 0, -1)).2.2.2 = -1) (h2 : (RD g n q 80 0 0 0 (c, [], 0, -1)).1.2.1 = 0) (h3 : (RD g n q 80 0 0 0 (c, [], 0, -1)).2.1 = lsP f e m) (h4 : (RD g n q 80 0 0 0 (c, [], 0, -1)).2.2.1 = a) (h5 : (st.length : Int) = a) (r1 : ∀ i, -2147483648 ≤ f i ∧ f i ≤ 2147483647) (r2 : ∀ i, -2147483648 ≤ e i ∧ e i ≤ 2147483647) : GVx (q, a, (row 96 f).take m, (row 96 e).take m, st) ∧ ∀ i, i < m → xcF (q, a, (row 96 f).take m, (row 96 e).take m, st) i = trF (f i, e i) := by
  have l1 : ((row 96 f).take m).length = m := by rw [List.length_take, row_len]; omega
  have l2 : ((row 96 e).take m).length = m := by rw [List.length_take, row_len]; omega
  have xs : ∀ i, i < m → xsF (q, a, (row 96 f).take m, (row 96 e).take m, st) i = f i := fun i hi => row_tk (by omega) hi (r1 i)
  have xv : ∀ i, i < m → xvF (q, a, (row 96 f).take m, (row 96 e).take m, st) i = e i := fun i hi => row_tk (by omega) hi (r2 i)
  have xc : ∀ i, i < m → xcF (q, a, (row 96 f).take m, (row 96 e).take m, st) i = trF (f i, e i) := fun i hi => by
    unfold xcF
    rw [xs i hi, xv i hi]
  refine ⟨?_, xc⟩
  obtain ⟨k, hk⟩ := (rd_sy (g := g) (q := q) hn w (T := fun _ => 0) rfl (M := 80) (by decide)).1 h1 h2
  have li := syr_LI k c [] [] 0 1 0 0 (fun _ => 0) _ ⟨trivial, rfl, fun x hx => (by cases hx), rfl, Or.inr rfl, fun q => absurd q (by decide)⟩ w cn hk rfl
  have pv := RD_PV (g := g) (n := n) (q := q) 80 0 0 0 (c, [], 0, -1) (by decide) ⟨fun p hp => (by cases hp), w, cn⟩
  have li' : wfL ((lsP f e m).map trF) ∧ cpL ((lsP f e m).map trF) = a ∧ 1 ≤ a := by rw [← h3, ← h4]; exact li
  rw [ls1_lsP] at li'
  obtain ⟨w1, w2, w3⟩ := li'
  rw [cpL_ls] at w2
  have wf := wfL_ls w1
  have hm1 : 1 ≤ m := by
    by_cases z : m = 0
    · subst z
      have : cpF (fun i => trF (f i, e i)) 0 = 0 := rfl
      omega
    · omega
  refine ⟨by show ((row 96 e).take m).length = ((row 96 f).take m).length; rw [l1, l2], by show 1 ≤ ((row 96 f).take m).length; rw [l1]; exact hm1, fun i hi => ?_, ?_, ?_⟩
  · have hi' : i < m := by
      have : i < ((row 96 f).take m).length := hi
      omega
    rw [xs i hi', xv i hi']
    refine pv.1 (f i, e i) ?_
    rw [h3]
    exact lsP_mem f e m i hi'
  · show wfC _ ((row 96 f).take m).length
    rw [l1]
    exact wfC_congr (fun j hj => (xc j hj).symm) wf
  · show cpF _ ((row 96 f).take m).length ≤ (st.length : Int)
    rw [l1, h5]
    have cc : ∀ k, k ≤ m → cpF (xcF (q, a, (row 96 f).take m, (row 96 e).take m, st)) k = cpF (fun i => trF (f i, e i)) k := by
      intro k hk
      induction k with
      | zero => rfl
      | succ k ih =>
        unfold cpF
        rw [ih (by omega), xc k (by omega)]
    rw [cc m (Nat.le_refl _), w2]
    exact Int.le_refl _
end
section
/-! ===== the table's views ===== -/
def ofF (D W : Nat → Int) (s p u : Int) : Int := abF (D ((s * 4 + p / 3) * 2 + u).toNat - W (2 * p).toNat) + abF (D ((s * 4 + p / 3) * 2 + (1 - u)).toNat - W (2 * p + 1).toNat)
def OC (t : TS) (b : Nat) : Nat → Nat → Nat → Int := fun s p u => ofF (tA t (b + 8)) (tA t (b + 7)) s p u
theorem oc_e {t : TS} {b : Nat} {s p u : Int} (h : 0 ≤ s ∧ 0 ≤ p ∧ 0 ≤ u) : ofF (tA t (b + 8)) (tA t (b + 7)) s p u = OC t b s.toNat p.toNat u.toNat := by
  unfold OC
  rw [Int.toNat_of_nonneg h.1, Int.toNat_of_nonneg h.2.1, Int.toNat_of_nonneg h.2.2]
theorem ab_i {x z : Int} (h : (0 ≤ x ∧ z = x) ∨ (x < 0 ∧ z = 0 - x)) : z = abF x := by
  unfold abF
  split <;> omega
def CP (t : TS) (b : Nat) : GPU := (tA t (b + 4), tA t (b + 5))
def HCt (t : TS) (b : Nat) : Prop := HC (tA t (b + 6)) (tA t (b + 4)) (tI t b 10).toNat
theorem pic_s {O : Nat → Nat → Nat → Int} {U H : Nat → Int} {p acc x : Int} (hp : 0 ≤ p) (h : acc = picH O U H p.toNat) (hx : (H p.toNat = -1 ∧ x = 198) ∨ (¬ H p.toNat = -1 ∧ x = O (H p.toNat).toNat p.toNat (U (H p.toNat).toNat).toNat)) : acc + x = picH O U H (p + 1).toNat := by
  rw [show (p + 1).toNat = p.toNat + 1 by omega]
  unfold picH
  rw [← h]
  rcases hx with k | k
  · rw [if_pos k.1, k.2]
  · rw [if_neg k.1, k.2]
theorem ma_s {L R U H : Nat → Int} {p acc x : Int} (hp : 0 ≤ p) (h : acc = maH L R U H p.toNat) (hx : (mtP L R U H p.toNat ∧ x = acc + 1) ∨ (¬ mtP L R U H p.toNat ∧ x = acc)) : x = maH L R U H (p + 1).toNat := by
  rw [show (p + 1).toNat = p.toNat + 1 by omega]
  unfold maH mtI
  unfold mtP at hx
  rw [← h]
  rcases hx with k | k
  · rw [if_pos k.1, k.2]
  · rw [if_neg k.1, k.2, Int.add_zero]
theorem ph_s {H : Nat → Int} {p acc x : Int} (hp : 0 ≤ p) (h : acc = phH H p.toNat) (hx : (H p.toNat = -1 ∧ x = acc) ∨ (¬ H p.toNat = -1 ∧ x = fZ (fun x y => x ||| y) acc (fZ (fun x y => x <<< (y &&& 31)) 1 p))) : x = phH H (p + 1).toNat := by
  rw [show (p + 1).toNat = p.toNat + 1 by omega]
  unfold phH
  rw [← h, Int.toNat_of_nonneg hp]
  rcases hx with k | k
  · rw [if_pos k.1, k.2]
  · rw [if_neg k.1, k.2]
def bc1 (x : Int) : Int := nrm (x - fZ (fun x y => x &&& y) (fZ (fun x y => (x.toUInt32 >>> (y.toUInt32 &&& Int32.toUInt32 31)).toInt32) x 1) 1431655765)
def bc2 (x : Int) : Int := nrm (fZ (fun x y => x &&& y) x 858993459 + fZ (fun x y => x &&& y) (fZ (fun x y => (x.toUInt32 >>> (y.toUInt32 &&& Int32.toUInt32 31)).toInt32) x 2) 858993459)
def bc3 (x : Int) : Int := fZ (fun x y => x &&& y) (nrm (x + fZ (fun x y => (x.toUInt32 >>> (y.toUInt32 &&& Int32.toUInt32 31)).toInt32) x 4)) 252645135
def bc4 (x : Int) : Int := nrm (x + fZ (fun x y => (x.toUInt32 >>> (y.toUInt32 &&& Int32.toUInt32 31)).toInt32) x 8)
def bc5 (x : Int) : Int := fZ (fun x y => x &&& y) (nrm (x + fZ (fun x y => (x.toUInt32 >>> (y.toUInt32 &&& Int32.toUInt32 31)).toInt32) x 16)) 63
def bcF (x : Int) : Int := bc5 (bc4 (bc3 (bc2 (bc1 x))))
/-! the best laying, in steps -/
theorem lb1.k {O : Nat → Nat → Int} {P : Nat → Int} {k k' : Nat} {which least way : Int} (h : lb1 O P k which least way) (e : k = k') : lb1 O P k' which least way := e ▸ h
theorem lb1.sk {O : Nat → Nat → Int} {P : Nat → Int} {s which least way : Int} (h0 : 0 ≤ s) (h : lb1 O P (2 * s.toNat) which least way) (e : ¬ P s.toNat = 12) : lb1 O P (2 * (s + 1).toNat) which least way := by
  have a := lb1.n h (fun q => e (by have := q.1; rw [show 2 * s.toNat / 2 = s.toNat by omega] at this; exact this))
  have d := lb1.n a (fun q => e (by have := q.1; rw [show (2 * s.toNat + 1) / 2 = s.toNat by omega] at this; exact this))
  exact d.k (by omega)
theorem lb1.nI {O : Nat → Nat → Int} {P : Nat → Int} {s u which least way : Int} (h0 : 0 ≤ s ∧ 0 ≤ u ∧ u ≤ 1) (h : lb1 O P (2 * s.toNat + u.toNat) which least way) (e : ¬ which = -1) {x : Int} (hx : x = O s.toNat u.toNat) (e2 : ¬ x < least) : lb1 O P (2 * s.toNat + (u + 1).toNat) which least way := by
  refine (lb1.n h (fun q => ?_)).k (by omega)
  rw [show (2 * s.toNat + u.toNat) / 2 = s.toNat by omega, show (2 * s.toNat + u.toNat) % 2 = u.toNat by omega, ← hx] at q
  rcases q.2 with k | k
  · exact e k
  · exact e2 k
theorem lb1.yI {O : Nat → Nat → Int} {P : Nat → Int} {s u which least way : Int} (h0 : 0 ≤ s ∧ 0 ≤ u ∧ u ≤ 1) (h : lb1 O P (2 * s.toNat + u.toNat) which least way) (hP : P s.toNat = 12) {x : Int} (hx : x = O s.toNat u.toNat) (e : which = -1 ∨ x < least) : lb1 O P (2 * s.toNat + (u + 1).toNat) s x u := by
  refine (lb1.y h ⟨?_, ?_⟩ ?_ ?_ ?_).k (by omega)
  · rw [show (2 * s.toNat + u.toNat) / 2 = s.toNat by omega]; exact hP
  · rw [show (2 * s.toNat + u.toNat) / 2 = s.toNat by omega, show (2 * s.toNat + u.toNat) % 2 = u.toNat by omega, ← hx]; exact e
  · omega
  · rw [show (2 * s.toNat + u.toNat) / 2 = s.toNat by omega, show (2 * s.toNat + u.toNat) % 2 = u.toNat by omega]; exact hx
  · omega
def lbT (t : TS) (b : Nat) (p : Int) : Int × Int × Int := lbF (fun s u => OC t b s p.toNat u) (tA t (b + 4)) (2 * (tI t b 10).toNat)
def LBp (t u : TS) (b : Nat) (p : Int) : Prop := ((lbT t b p).1 = -1 ∧ tA u (b + 4) = tA t (b + 4) ∧ tA u (b + 5) = tA t (b + 5) ∧ tA u (b + 6) = tA t (b + 6)) ∨ (¬ (lbT t b p).1 = -1 ∧ tA u (b + 4) = upF (tA t (b + 4)) (lbT t b p).1.toNat p ∧ tA u (b + 5) = upF (tA t (b + 5)) (lbT t b p).1.toNat (lbT t b p).2.2 ∧ tA u (b + 6) = mvH (tA t (b + 6)) (tA t (b + 4)) (lbT t b p).1.toNat p)
theorem lbp_0 {t : TS} {b : Nat} {p which least way s : Int} (h : lb1 (fun s u => OC t b s p.toNat u) (tA t (b + 4)) (2 * s.toNat) which least way) (hs : s = tI t b 10) (e : which = -1) : LBp t t b p := by
  subst hs
  exact Or.inl ⟨by rw [← e]; exact h.1.symm, rfl, rfl, rfl⟩
theorem lbp_1 {t v u : TS} {b : Nat} {p which least way s : Int} (h : lb1 (fun s u => OC t b s p.toNat u) (tA t (b + 4)) (2 * s.toNat) which least way) (hs : s = tI t b 10) (e : ¬ which = -1) (h4 : tA v (b + 4) = upF (tA t (b + 4)) which.toNat p) (h6 : tA v (b + 6) = mvH (tA t (b + 6)) (tA t (b + 4)) which.toNat p) (f5 : ∀ i, tA v (b + 5) i = tA t (b + 5) i) (hu : u = uA v (b + 5) which.toNat way) : LBp t u b p := by
  subst hs
  have e1 : (lbT t b p).1 = which := h.1.symm
  have e2 : (lbT t b p).2.2 = way := h.2.2.symm
  refine Or.inr ⟨by rw [e1]; exact e, ?_, ?_, ?_⟩
  · rw [e1, ← h4, hu]
    funext i
    rw [tA_uA, if_neg (by omega)]
  · rw [e1, e2, hu]
    funext i
    rw [tA_uA, f5]
    unfold upF
    by_cases q : i = which.toNat
    · rw [if_pos ⟨rfl, q⟩, if_pos q]
    · rw [if_neg (fun k => q k.2), if_neg q]
  · rw [e1, ← h6, hu]
    funext i
    rw [tA_uA, if_neg (by omega)]
def TUp (t u : TS) (b : Nat) (p : Int) : Prop := tA u (b + 5) = if tA t (b + 6) p.toNat = -1 then tA t (b + 5) else upF (tA t (b + 5)) (tA t (b + 6) p.toNat).toNat (1 - tA t (b + 5) (tA t (b + 6) p.toNat).toNat)
theorem tup_0 {t : TS} {b : Nat} {p h : Int} (e : h = tA t (b + 6) p.toNat) (e2 : h = -1) : TUp t t b p := by
  unfold TUp
  rw [← e, if_pos e2]
theorem tup_1 {t u : TS} {b : Nat} {p h x : Int} (e : h = tA t (b + 6) p.toNat) (e2 : ¬ h = -1) (hx : x = tA t (b + 5) h.toNat) (hu : u = uA t (b + 5) h.toNat (1 - x)) : TUp t u b p := by
  unfold TUp
  rw [← e, if_neg e2, ← hx, hu]
  funext i
  rw [tA_uA]
  unfold upF
  by_cases q : i = h.toNat
  · rw [if_pos ⟨rfl, q⟩, if_pos q]
  · rw [if_neg (fun k => q k.2), if_neg q]
/-! a day, in steps -/
def GLp (t u : TS) (b : Nat) (y : GPU) : Prop := CP u b = y ∧ HCt u b ∧ OC u b = OC t b ∧ tI u b 10 = tI t b 10
theorem GLp.rf {t : TS} {b : Nat} (h : HCt t b) : GLp t t b (CP t b) := ⟨rfl, h, rfl, rfl⟩
theorem GLp.fr {S : List (Nat × Nat)} {t u v : TS} {b : Nat} {y : GPU} (h : GLp t u b y) (f : Fr S u v) (h4 : (b + 4, 100) ∉ S) (h5 : (b + 5, 100) ∉ S) (h6 : (b + 6, 100) ∉ S) (h7 : (b + 7, 100) ∉ S) (h8 : (b + 8, 100) ∉ S) (h10 : (b, 10) ∉ S) : GLp t v b y := by
  obtain ⟨a1, a2, a3, a4⟩ := h
  have e4 := funext (f.2.1 _ h4)
  have e5 := funext (f.2.1 _ h5)
  have e6 := funext (f.2.1 _ h6)
  have e7 := funext (f.2.1 _ h7)
  have e8 := funext (f.2.1 _ h8)
  have e10 := f.1 _ _ h10
  refine ⟨?_, ?_, ?_, by rw [e10]; exact a4⟩
  · rw [← a1]; unfold CP; rw [e4, e5]
  · unfold HCt; rw [e4, e6, e10]; exact a2
  · rw [← a3]; unfold OC; rw [e7, e8]
theorem GLp.uI {t u v : TS} {b : Nat} {y : GPU} {c f : Nat} {z : Int} (h : GLp t u b y) (e : v = uI u c f z) (hf : ¬ (b = c ∧ 10 = f)) : GLp t v b y := by
  subst e
  obtain ⟨a1, a2, a3, a4⟩ := h
  refine ⟨a1, ?_, a3, by rw [tI_uI, if_neg hf]; exact a4⟩
  unfold HCt
  rw [tI_uI, if_neg hf]
  exact a2
theorem gl_l0 {t u : TS} {b : Nat} {y : GPU} {r fe : Int} (h : GLp t u b y) (hr : 0 ≤ r ∧ r ≤ 3) (hf : fe = feF (tA u (b + 6)) r) (e : fe = -1) : GLp t u b (lyF (tI t b 10).toNat (OC t b) r y) := by
  obtain ⟨a1, a2, a3, a4⟩ := h
  have k : feF (HF y.1 (tI t b 10).toNat) r = feF (tA u (b + 6)) r := by
    refine (feF_congr hr (fun q hq => ?_)).symm
    rw [a2.1 q hq, ← a1, a4]
    rfl
  unfold lyF
  rw [k, ← hf, if_pos e]
  exact ⟨a1, a2, a3, a4⟩
theorem gl_l1 {S : List (Nat × Nat)} {t u v : TS} {b : Nat} {y : GPU} {r fe : Int} (h : GLp t u b y) (hr : 0 ≤ r ∧ r ≤ 3) (hf : fe = feF (tA u (b + 6)) r) (e : ¬ fe = -1) (l : LBp u v b fe) (f : Fr S u v) (h7 : (b + 7, 100) ∉ S) (h8 : (b + 8, 100) ∉ S) (h10 : (b, 10) ∉ S) : GLp t v b (lyF (tI t b 10).toNat (OC t b) r y) := by
  obtain ⟨a1, a2, a3, a4⟩ := h
  have e7 := funext (f.2.1 _ h7)
  have e8 := funext (f.2.1 _ h8)
  have e10 := f.1 _ _ h10
  have k : feF (HF y.1 (tI t b 10).toNat) r = feF (tA u (b + 6)) r := by
    refine (feF_congr hr (fun q hq => ?_)).symm
    rw [a2.1 q hq, ← a1, a4]
    rfl
  have fr := feF_r (H := tA u (b + 6)) hr
  rw [← hf] at fr
  have eo : OC v b = OC t b := by rw [← a3]; unfold OC; rw [e7, e8]
  have en : tI v b 10 = tI t b 10 := e10.trans a4
  have el : lbT u b fe = lbF (fun s u => OC t b s fe.toNat u) y.1 (2 * (tI t b 10).toNat) := by
    unfold lbT
    rw [a3, a4, ← a1]
    rfl
  have w := lbF_r (fun s u => OC t b s fe.toNat u) y.1 (2 * (tI t b 10).toNat)
  unfold lyF
  rw [k, ← hf, if_neg e, ← el]
  rw [← el] at w
  rcases l with l | l
  · obtain ⟨l1, l4, l5, l6⟩ := l
    rw [if_pos l1]
    refine ⟨?_, ?_, eo, en⟩
    · rw [← a1]; unfold CP; rw [l4, l5]
    · unfold HCt; rw [l4, l6, e10]; exact a2
  · obtain ⟨l1, l4, l5, l6⟩ := l
    rw [if_neg l1]
    refine ⟨?_, ?_, eo, en⟩
    · rw [← a1]; unfold CP; rw [l4, l5]
    · unfold HCt
      rw [l4, l6, e10]
      refine HC.mv a2 (by rcases w.1 with x | x <;> omega) (by omega) (fun _ => Or.inl ?_)
      rcases fr with x | x
      · exact absurd x e
      · exact x.2.2
theorem gl_t {S : List (Nat × Nat)} {t u v : TS} {b : Nat} {y : GPU} {p : Int} (h : GLp t u b y) (hp : 0 ≤ p ∧ p < 12) (l : TUp u v b p) (f : Fr S u v) (h4 : (b + 4, 100) ∉ S) (h6 : (b + 6, 100) ∉ S) (h7 : (b + 7, 100) ∉ S) (h8 : (b + 8, 100) ∉ S) (h10 : (b, 10) ∉ S) : GLp t v b (tuF (tI t b 10).toNat p y) := by
  obtain ⟨a1, a2, a3, a4⟩ := h
  have e4 := funext (f.2.1 _ h4)
  have e6 := funext (f.2.1 _ h6)
  have e7 := funext (f.2.1 _ h7)
  have e8 := funext (f.2.1 _ h8)
  have e10 := f.1 _ _ h10
  have k : hoF y.1 p (tI t b 10).toNat = tA u (b + 6) p.toNat := by
    rw [a2.1 p.toNat (by omega), Int.toNat_of_nonneg hp.1, ← a1, a4]
    rfl
  refine ⟨?_, ?_, ?_, e10.trans a4⟩
  · unfold tuF
    rw [k, ← a1]
    unfold TUp at l
    unfold CP
    rw [e4, l]
    by_cases q : tA u (b + 6) p.toNat = -1
    · rw [if_pos q, if_pos q]
    · rw [if_neg q, if_neg q]
  · unfold HCt; rw [e4, e6, e10]; exact a2
  · rw [← a3]; unfold OC; rw [e7, e8]
theorem gl_d0 {t u : TS} {b : Nat} {z w : Int} {n : Nat} {O : Nat → Nat → Nat → Int} {y : GPU} (h : GLp t u b (lyF n O (drF (znF z) % 4) y)) (e : ¬ drF (znF (znF z)) % 100 < w) : GLp t u b (dyF n O w z y) := by
  unfold dyF
  rw [if_neg e]
  exact h
theorem gl_d1 {t u : TS} {b : Nat} {z w : Int} {n : Nat} {O : Nat → Nat → Nat → Int} {y : GPU} (h : GLp t u b (tuF n (drF (znF (znF (znF z))) % 12) (lyF n O (drF (znF z) % 4) y))) (e : drF (znF (znF z)) % 100 < w) : GLp t u b (dyF n O w z y) := by
  unfold dyF
  rw [if_pos e]
  exact h
theorem gl_s {t u v : TS} {b : Nat} {w z z0 : Int} {k : Nat} (h : GLp t u b (dysF (tI t b 10).toNat (OC t b) w z0 k (CP t b))) (h' : GLp u v b (dyF (tI u b 10).toNat (OC u b) w z (CP u b))) (hz : z = zdsF k z0 w) : GLp t v b (dysF (tI t b 10).toNat (OC t b) w z0 (k + 1) (CP t b)) := by
  obtain ⟨a1, a2, a3, a4⟩ := h
  obtain ⟨c1, c2, c3, c4⟩ := h'
  refine ⟨?_, c2, c3.trans a3, c4.trans a4⟩
  rw [c1, a1, a3, a4, hz]
  rfl
/-! change, falling -/
def gnF (O : Nat → Nat → Nat → Int) (P U : Nat → Int) (x y : Nat) : Int := if P x < 12 ∧ P y < 12 then (O x (P x).toNat (U x).toNat + O y (P y).toNat (U y).toNat) - (O x (P y).toNat (U x).toNat + O y (P x).toNat (U y).toNat) else 0
def faS (hv H : Nat → Int) : Nat → Nat → Int → Int → Int
  | 0, _, n, _ => n
  | k + 1, i, n, w => if H i = -1 then n else if 0 < n ∧ 2 * w < hv (H i).toNat then n else faS hv H k (i + 1) (n + 1) (hv (H i).toNat)
def flF (hv H : Nat → Int) (p : Nat) : Int := faS hv H (12 - p) p 0 0
theorem faS_0 {hv H : Nat → Int} {i n w : Int} {k : Nat} (hi : 0 ≤ i ∧ i < 12) (e : (H i.toNat = -1) ∨ (¬ H i.toNat = -1 ∧ 0 < n ∧ 2 * w < hv (H i.toNat).toNat)) (hk : k = (12 - i).toNat) : faS hv H k i.toNat n w = n := by
  obtain ⟨m, rfl⟩ : ∃ m, k = m + 1 := ⟨k - 1, by omega⟩
  unfold faS
  rcases e with e | e
  · rw [if_pos e]
  · rw [if_neg e.1, if_pos e.2]
theorem faS_1 {hv H : Nat → Int} {i n w : Int} (hi : 0 ≤ i ∧ i < 12) (e1 : ¬ H i.toNat = -1) (e2 : ¬ (0 < n ∧ 2 * w < hv (H i.toNat).toNat)) : faS hv H (12 - i).toNat i.toNat n w = faS hv H (12 - (i + 1)).toNat (i + 1).toNat (n + 1) (hv (H i.toNat).toNat) := by
  rw [show (12 - i).toNat = (12 - (i + 1)).toNat + 1 by omega]
  show (if _ then _ else _) = _
  rw [if_neg e1, if_neg e2, show (i + 1).toNat = i.toNat + 1 by omega]
theorem fa_n {hv H : Nat → Int} {i n w q v : Int} (hi : 0 ≤ i ∧ i < 12) (hq : q = H i.toNat) (e1 : ¬ q = -1) (hv' : v = hv q.toNat) (e2 : ¬ (0 < n ∧ 2 * w < v)) : faS hv H (12 - (i + 1)).toNat (i + 1).toNat (n + 1) v = faS hv H (12 - i).toNat i.toNat n w := by
  subst hq hv'
  exact (faS_1 hi e1 e2).symm
theorem faS_e {hv H : Nat → Int} {i n w : Int} (hi : 12 ≤ i) : faS hv H (12 - i).toNat i.toNat n w = n := by
  rw [show (12 - i).toNat = 0 by omega]
  rfl
theorem faS_cg {hv hv' H H' : Nat → Int} (h : ∀ p, p < 12 → H p = H' p ∧ (¬ H p = -1 → hv (H p).toNat = hv' (H p).toNat)) : ∀ (k i : Nat) (n w : Int), i + k ≤ 12 → faS hv H k i n w = faS hv' H' k i n w
  | 0, _, _, _, _ => rfl
  | k + 1, i, n, w, hk => by
    obtain ⟨h1, h2⟩ := h i (by omega)
    unfold faS
    rw [← h1]
    by_cases e : H i = -1
    · rw [if_pos e, if_pos e]
    · rw [if_neg e, if_neg e, ← h2 e, faS_cg h k (i + 1) _ _ (by omega)]
def hvT (t : TS) (b : Nat) : Nat → Int := fun s => hvF (tA t (b + 1) s) (tA t (b + 2) s) (tA t (b + 3) s)
/-! what is read off a state of stones -/
def picG (n : Nat) (O : Nat → Nat → Nat → Int) (x : GPU) : Int := picH O x.2 (HF x.1 n) 12
def matG (n : Nat) (L R : Nat → Int) (x : GPU) : Int := maH L R x.2 (HF x.1 n) 11
def phG (n : Nat) (x : GPU) : Int := phH (HF x.1 n) 12
def cnG (n : Nat) (x : GPU) : Int := cnH (HF x.1 n) 12
theorem AgH_of {n : Nat} {x y : GPU} (h : Agr n x y) : AgH x.2 (HF x.1 n) y.2 (HF y.1 n) := by
  intro p hp
  rw [HF_congr h]
  refine ⟨rfl, fun e => ?_⟩
  have b := hoF_b y.1 p n
  exact (h _ (by show (hoF y.1 p n).toNat < n; have : ¬ hoF y.1 p n = -1 := e; omega)).2
theorem HF_b (P : Nat → Int) (n p : Nat) : HF P n p < (n : Int) ∧ -1 ≤ HF P n p := by
  have b := hoF_b P p n
  show hoF P p n < _ ∧ -1 ≤ hoF P p n
  omega
theorem picG_cg {n : Nat} {O O' : Nat → Nat → Nat → Int} {x y : GPU} (h : Agr n x y) (hO : AgO n O O') (hu : ∀ s, 0 ≤ x.2 s ∧ x.2 s ≤ 1) : picG n O x = picG n O' y := picH_congr (AgH_of h) (fun p _ => HF_b _ _ _) hu hO 12 (Nat.le_refl _)
theorem matG_cg {n : Nat} {L R L' R' : Nat → Int} {x y : GPU} (h : Agr n x y) (hL : ∀ s, s < n → L s = L' s ∧ R s = R' s) : matG n L R x = matG n L' R' y := maH_congr (AgH_of h) (fun p _ => HF_b _ _ _) hL 11 (Nat.le_refl _)
theorem phG_cg {n : Nat} {x y : GPU} (h : Agr n x y) : phG n x = phG n y := by
  unfold phG
  rw [HF_congr h]
theorem cnG_cg {n : Nat} {x y : GPU} (h : Agr n x y) : cnG n x = cnG n y := by
  unfold cnG
  rw [HF_congr h]
theorem flF_cg {n p : Nat} {hv hv' : Nat → Int} {x y : GPU} (h : Agr n x y) (hh : ∀ s, s < n → hv s = hv' s) (hp : p ≤ 12) : flF hv (HF x.1 n) p = flF hv' (HF y.1 n) p := by
  unfold flF
  rw [HF_congr h]
  refine faS_cg (fun q hq => ⟨rfl, fun e => hh _ ?_⟩) _ _ _ _ (by omega)
  have b := hoF_b y.1 q n
  show (hoF y.1 q n).toNat < n
  have : ¬ hoF y.1 q n = -1 := e
  omega
theorem HC.HF {H P : Nat → Int} {n : Nat} (h : HC H P n) (q : Nat) (hq : q < 12) : H q = HF P n q := h.1 q hq
theorem picC {t : TS} {b : Nat} (h : HCt t b) (O : Nat → Nat → Nat → Int) (hO : ∀ s p u, O s p u = OC t b s p u) (hu : ∀ s, 0 ≤ tA t (b + 5) s ∧ tA t (b + 5) s ≤ 1) : picH (OC t b) (tA t (b + 5)) (tA t (b + 6)) 12 = picG (tI t b 10).toNat O (CP t b) :=
  picH_congr (fun p hp => ⟨h.HF p hp, fun _ => rfl⟩) (fun p hp => by rw [h.HF p hp]; exact HF_b _ _ _) hu (fun s p u _ _ _ => (hO s p u).symm) 12 (Nat.le_refl _)
theorem matC {t : TS} {b : Nat} (h : HCt t b) : maH (tA t (b + 2)) (tA t (b + 3)) (tA t (b + 5)) (tA t (b + 6)) 11 = matG (tI t b 10).toNat (tA t (b + 2)) (tA t (b + 3)) (CP t b) :=
  maH_congr (fun p hp => ⟨h.HF p hp, fun _ => rfl⟩) (fun p hp => by rw [h.HF p hp]; exact HF_b _ _ _) (fun s _ => ⟨rfl, rfl⟩) 11 (Nat.le_refl _)
theorem phC {t : TS} {b : Nat} (h : HCt t b) : phH (tA t (b + 6)) 12 = phG (tI t b 10).toNat (CP t b) := phH_congr 12 (fun p hp => h.HF p hp)
theorem cnC {t : TS} {b : Nat} (h : HCt t b) : cnH (tA t (b + 6)) 12 = cnG (tI t b 10).toNat (CP t b) := cnH_congr 12 (fun p hp => h.HF p hp)
/-! how many bits -/
def pcN : Nat → Nat → Nat
  | 0, _ => 0
  | k + 1, a => a % 2 + pcN k (a / 2)
theorem and_nat {a b : Nat} (ha : a < 2147483648) (hb : b < 2147483648) : fZ (fun x y => x &&& y) (a : Int) (b : Int) = ((a &&& b : Nat) : Int) := by
  have hab : a &&& b < 2147483648 := Nat.lt_of_le_of_lt Nat.and_le_left ha
  have e : jI (a : Int) &&& jI (b : Int) = nI (a &&& b) := by
    rw [jI_nat, jI_nat]
    apply Int32.toBitVec_inj.mp
    apply BitVec.eq_of_toNat_eq
    rw [Int32.toBitVec_and, BitVec.toNat_and]
    show (Int32.ofNat a).toBitVec.toNat &&& (Int32.ofNat b).toBitVec.toNat = (Int32.ofNat (a &&& b)).toBitVec.toNat
    rw [Int32.toBitVec_ofNat', Int32.toBitVec_ofNat', Int32.toBitVec_ofNat', BitVec.toNat_ofNat, BitVec.toNat_ofNat, BitVec.toNat_ofNat, Nat.mod_eq_of_lt (by omega), Nat.mod_eq_of_lt (by omega), Nat.mod_eq_of_lt (by omega)]
  show (jI (a : Int) &&& jI (b : Int)).toInt = _
  rw [e, nIt_ hab]
theorem shr_nat {a : Nat} (k : Nat) (ha : a < 2147483648) (c : UInt32) (hc : (jI (k : Int)).toUInt32 &&& Int32.toUInt32 31 = c) (hk : c.toNat % 32 = k) : fZ (fun x y => (x.toUInt32 >>> (y.toUInt32 &&& Int32.toUInt32 31)).toInt32) (a : Int) (k : Int) = ((a >>> k : Nat) : Int) := by
  have h2 : a >>> k < 2147483648 := Nat.lt_of_le_of_lt (Nat.shiftRight_le a k) ha
  have e : (UInt32.ofNat a >>> c).toNat = a >>> k := by
    rw [UInt32.toNat_shiftRight, hk, UInt32.toNat_ofNat', Nat.mod_eq_of_lt (by omega)]
  have h4 : UInt32.ofNat a >>> c = UInt32.ofNat (a >>> k) := by rw [← e]; exact (UInt32.ofNat_toNat).symm
  have h3 : (jI (a : Int)).toUInt32 = UInt32.ofNat a := by rw [jI_nat]; rfl
  show ((jI (a : Int)).toUInt32 >>> ((jI (k : Int)).toUInt32 &&& Int32.toUInt32 31)).toInt32.toInt = _
  rw [hc, h3, h4]
  exact nIt_ h2
def bn1 (a : Nat) : Nat := a - ((a >>> 1) &&& 1431655765)
def bn2 (a : Nat) : Nat := (a &&& 858993459) + ((a >>> 2) &&& 858993459)
def bn3 (a : Nat) : Nat := (a + (a >>> 4)) &&& 252645135
def bn4 (a : Nat) : Nat := a + (a >>> 8)
def bn5 (a : Nat) : Nat := (a + (a >>> 16)) &&& 63
theorem bc1_n {a : Nat} (h : a < 16777216) : bc1 (a : Int) = (bn1 a : Int) ∧ bn1 a ≤ 2 * a := by
  have e1 : fZ (fun x y => (x.toUInt32 >>> (y.toUInt32 &&& Int32.toUInt32 31)).toInt32) (a : Int) 1 = ((a >>> 1 : Nat) : Int) := shr_nat 1 (by omega) 1 (by decide +kernel) (by decide +kernel)
  have l1 := Nat.shiftRight_le a 1
  have e2 : fZ (fun x y => x &&& y) ((a >>> 1 : Nat) : Int) 1431655765 = (((a >>> 1) &&& 1431655765 : Nat) : Int) := and_nat (b := 1431655765) (by omega) (by decide)
  have l2 : (a >>> 1) &&& 1431655765 ≤ a >>> 1 := Nat.and_le_left
  unfold bc1 bn1
  rw [e1, e2, nrm_id (by omega)]
  omega
theorem bc2_n {a : Nat} (h : a < 16777216) : bc2 (a : Int) = (bn2 a : Int) ∧ bn2 a ≤ 2 * a := by
  have e1 : fZ (fun x y => (x.toUInt32 >>> (y.toUInt32 &&& Int32.toUInt32 31)).toInt32) (a : Int) 2 = ((a >>> 2 : Nat) : Int) := shr_nat 2 (by omega) 2 (by decide +kernel) (by decide +kernel)
  have l1 := Nat.shiftRight_le a 2
  have e2 : fZ (fun x y => x &&& y) ((a >>> 2 : Nat) : Int) 858993459 = (((a >>> 2) &&& 858993459 : Nat) : Int) := and_nat (b := 858993459) (by omega) (by decide)
  have e3 : fZ (fun x y => x &&& y) (a : Int) 858993459 = ((a &&& 858993459 : Nat) : Int) := and_nat (b := 858993459) (by omega) (by decide)
  have l2 : (a >>> 2) &&& 858993459 ≤ a >>> 2 := Nat.and_le_left
  have l3 : a &&& 858993459 ≤ a := Nat.and_le_left
  unfold bc2 bn2
  rw [e1, e2, e3, nrm_id (by omega)]
  omega
theorem bc3_n {a : Nat} (h : a < 16777216) : bc3 (a : Int) = (bn3 a : Int) ∧ bn3 a ≤ 2 * a := by
  have e1 : fZ (fun x y => (x.toUInt32 >>> (y.toUInt32 &&& Int32.toUInt32 31)).toInt32) (a : Int) 4 = ((a >>> 4 : Nat) : Int) := shr_nat 4 (by omega) 4 (by decide +kernel) (by decide +kernel)
  have l1 := Nat.shiftRight_le a 4
  have e2 : fZ (fun x y => x &&& y) ((a + (a >>> 4) : Nat) : Int) 252645135 = (((a + (a >>> 4)) &&& 252645135 : Nat) : Int) := and_nat (b := 252645135) (by omega) (by decide)
  have l2 : (a + (a >>> 4)) &&& 252645135 ≤ a + (a >>> 4) := Nat.and_le_left
  unfold bc3 bn3
  rw [e1, nrm_id (by omega), show (a : Int) + ((a >>> 4 : Nat) : Int) = ((a + (a >>> 4) : Nat) : Int) by omega, e2]
  exact ⟨rfl, by omega⟩
theorem bc4_n {a : Nat} (h : a < 16777216) : bc4 (a : Int) = (bn4 a : Int) ∧ bn4 a ≤ 2 * a := by
  have e1 : fZ (fun x y => (x.toUInt32 >>> (y.toUInt32 &&& Int32.toUInt32 31)).toInt32) (a : Int) 8 = ((a >>> 8 : Nat) : Int) := shr_nat 8 (by omega) 8 (by decide +kernel) (by decide +kernel)
  have l1 := Nat.shiftRight_le a 8
  unfold bc4 bn4
  rw [e1, nrm_id (by omega)]
  omega
theorem bc5_n {a : Nat} (h : a < 16777216) : bc5 (a : Int) = (bn5 a : Int) := by
  have e1 : fZ (fun x y => (x.toUInt32 >>> (y.toUInt32 &&& Int32.toUInt32 31)).toInt32) (a : Int) 16 = ((a >>> 16 : Nat) : Int) := shr_nat 16 (by omega) 16 (by decide +kernel) (by decide +kernel)
  have l1 := Nat.shiftRight_le a 16
  have e2 : fZ (fun x y => x &&& y) ((a + (a >>> 16) : Nat) : Int) 63 = (((a + (a >>> 16)) &&& 63 : Nat) : Int) := and_nat (b := 63) (by omega) (by decide)
  unfold bc5 bn5
  rw [e1, nrm_id (by omega), show (a : Int) + ((a >>> 16 : Nat) : Int) = ((a + (a >>> 16) : Nat) : Int) by omega, e2]
set_option maxRecDepth 100000 in
theorem bn_pc : ∀ a : Nat, a < 4096 → bn5 (bn4 (bn3 (bn2 (bn1 a)))) = pcN 12 a := by decide +kernel
theorem bc_pc (a : Nat) (h : a < 4096) : bcF (a : Int) = (pcN 12 a : Int) := by
  have h1 := bc1_n (a := a) (by omega)
  have h2 := bc2_n (a := bn1 a) (by omega)
  have h3 := bc3_n (a := bn2 (bn1 a)) (by omega)
  have h4 := bc4_n (a := bn3 (bn2 (bn1 a))) (by omega)
  have h5 := bc5_n (a := bn4 (bn3 (bn2 (bn1 a)))) (by omega)
  unfold bcF
  rw [h1.1, h2.1, h3.1, h4.1, h5, bn_pc a h]
theorem pc_add : ∀ p k a : Nat, p < k → a < 2 ^ p → pcN k (a + 2 ^ p) = pcN k a + 1
  | 0, 0, _, h, _ => by omega
  | 0, k + 1, a, _, ha => by
    have e : a = 0 := by simp at ha; exact ha
    subst e
    show (0 + 2 ^ 0) % 2 + pcN k ((0 + 2 ^ 0) / 2) = 0 % 2 + pcN k (0 / 2) + 1
    rw [show (0 + 2 ^ 0) / 2 = 0 / 2 by decide, show (0 + 2 ^ 0) % 2 = 1 by decide]
    omega
  | p + 1, 0, _, h, _ => by omega
  | p + 1, k + 1, a, h, ha => by
    rw [Nat.pow_succ] at ha ⊢
    have ih := pc_add p k (a / 2) (by omega) (by omega)
    show (a + 2 ^ p * 2) % 2 + pcN k ((a + 2 ^ p * 2) / 2) = a % 2 + pcN k (a / 2) + 1
    rw [show (a + 2 ^ p * 2) % 2 = a % 2 by omega, show (a + 2 ^ p * 2) / 2 = a / 2 + 2 ^ p by omega, ih]
    omega
theorem pc_or (p : Nat) (hp : p < 12) (a : Nat) (ha : a < 2 ^ p) : pcN 12 (a ||| 2 ^ p) = pcN 12 a + 1 := by
  have e : a ||| 2 ^ p = a + 2 ^ p := by
    have q := Nat.two_pow_add_eq_or_of_lt ha 1
    rw [Nat.mul_one] at q
    rw [Nat.or_comm, ← q, Nat.add_comm]
  rw [e]
  exact pc_add p 12 a hp ha
theorem ph_cn {H : Nat → Int} : ∀ p : Nat, p ≤ 12 → ∃ a : Nat, phH H p = (a : Int) ∧ a < 2 ^ p ∧ cnH H p = (pcN 12 a : Int)
  | 0, _ => ⟨0, rfl, by decide, rfl⟩
  | p + 1, hp => by
    obtain ⟨a, h1, h2, h3⟩ := ph_cn (H := H) p (by omega)
    have hp2 : 2 ^ p < 2 ^ (p + 1) := Nat.pow_lt_pow_right (by decide) (by omega)
    unfold phH cnH
    by_cases e : H p = -1
    · rw [if_pos e, if_pos e]
      exact ⟨a, h1, by omega, by rw [h3, Int.add_zero]⟩
    · rw [if_neg e, if_neg e, h1, shl_pow p (by omega)]
      have hM : 2 ^ p ≤ 2 ^ 12 := Nat.pow_le_pow_right (by decide) (by omega)
      refine ⟨a ||| 2 ^ p, or_nat (by omega) (by omega), Nat.or_lt_two_pow (by omega) hp2, ?_⟩
      rw [pc_or p (by omega) a h2, h3]
      omega
theorem bc_cn (H : Nat → Int) : bcF (phH H 12) = cnH H 12 := by
  obtain ⟨a, h1, h2, h3⟩ := ph_cn (H := H) 12 (Nat.le_refl _)
  rw [h1, bc_pc a h2, h3]
theorem cn_r (H : Nat → Int) : ∀ p : Nat, 0 ≤ cnH H p ∧ cnH H p ≤ p
  | 0 => ⟨Int.le_refl 0, Int.le_refl 0⟩
  | p + 1 => by
    have := cn_r H p
    unfold cnH
    split <;> omega
end
section
/-! ===== working a text out, step by step ===== -/
theorem tw_p {s x y z : Int} (hs : s = 43) (h : z = nrm (x + y)) : z = twF (sgF s) x y := by subst hs h; rfl
theorem tw_m {s x y z : Int} (hs : s = 45) (h : z = nrm (x - y)) : z = twF (sgF s) x y := by subst hs h; rfl
theorem tw_t {s x y z : Int} (hs : s = 42) (h : z = nrm (x * y)) : z = twF (sgF s) x y := by subst hs h; rfl
theorem tw_d0 {s x y z : Int} (hs : s = 47) (hy : y = 0) (h : z = 0) : z = twF (sgF s) x y := by
  subst hs hy h
  rfl
theorem tw_d {s x y z : Int} (hs : s = 47) (hy : ¬ y = 0) (h : z = fZ (fun x y => x / y) x y) : z = twF (sgF s) x y := by
  subst hs h
  show _ = (if y = 0 then 0 else fZ (fun x y => x / y) x y)
  rw [if_neg hy]
theorem tw_l {s x y z : Int} (hs : s = 60) (h : (x < y ∧ z = 1) ∨ (¬ x < y ∧ z = 0)) : z = twF (sgF s) x y := by
  subst hs
  show _ = (if x < y then 1 else 0)
  split <;> omega
theorem tw_e {s x y z : Int} (hs : s = 61) (h : (x = y ∧ z = 1) ∨ (¬ x = y ∧ z = 0)) : z = twF (sgF s) x y := by
  subst hs
  show _ = (if x = y then 1 else 0)
  split <;> omega
theorem tw_g {s x y z : Int} (hs : s = 62) (h : (y < x ∧ z = 1) ∨ (¬ y < x ∧ z = 0)) : z = twF (sgF s) x y := by
  subst hs
  show _ = (if y < x then 1 else 0)
  split <;> omega
theorem tw_a {s x y z : Int} (hs : s = 38) (h : (¬ x = 0 ∧ ¬ y = 0 ∧ z = 1) ∨ ((x = 0 ∨ y = 0) ∧ z = 0)) : z = twF (sgF s) x y := by
  subst hs
  show _ = (if ¬ x = 0 ∧ ¬ y = 0 then 1 else 0)
  split <;> omega
theorem tw_o {s x y z : Int} (hs : s = 124) (h : ((¬ x = 0 ∨ ¬ y = 0) ∧ z = 1) ∨ (x = 0 ∧ y = 0 ∧ z = 0)) : z = twF (sgF s) x y := by
  subst hs
  show _ = (if ¬ x = 0 ∨ ¬ y = 0 then 1 else 0)
  split <;> omega
theorem tx_uX {u : TS} {j k : Nat} {z : Int} (hj : j < (tD u).length) : (tx (uX u j k z) j).2.2.2.2 = (tx u j).2.2.2.2.set k (jI z) := by
  unfold tx uX
  show (((tD u).set j _).getD j _).2.2.2.2 = _
  rw [List.getD_eq_getElem?_getD, List.getElem?_set, if_pos rfl, if_pos hj]
  rfl
theorem xk_uX {u : TS} {j k m : Nat} {z : Int} (hj : j < (tD u).length) (hk : k < (tx u j).2.2.2.2.length) (hz : -2147483648 ≤ z ∧ z ≤ 2147483647) : xkF (tx (uX u j k z) j) m = upF (xkF (tx u j)) k z m := by
  unfold xkF upF
  rw [tx_uX hj, List.getD_eq_getElem?_getD, List.getElem?_set]
  by_cases e : m = k
  · subst e
    rw [if_pos rfl, if_pos hk, if_pos rfl]
    exact nrm_id hz
  · rw [if_neg (fun q => e q.symm), if_neg e]
    show _ = ((tx u j).2.2.2.2.getD m 0).toInt
    rw [List.getD_eq_getElem?_getD]
def GIp (t u : TS) (j : Nat) (p q r top i : Int) : Prop := top = (evF (xcF (tx t j)) p q r (xkF (tx t j)) i.toNat).1 ∧ ∀ m : Nat, m < (tx t j).2.2.2.2.length → xkF (tx u j) m = (evF (xcF (tx t j)) p q r (xkF (tx t j)) i.toNat).2 m
theorem gi_0 (t : TS) (j : Nat) (p q r : Int) : GIp t t j p q r 0 0 := ⟨rfl, fun _ _ => rfl⟩
theorem gi_b {t u : TS} {j : Nat} {p q r top i s : Int} (g : GVx (tx t j)) (h : GIp t u j p q r top i) (hi : 0 ≤ i ∧ i < ((tx t j).2.2.1.length : Int)) (hs : s = xsF (tx t j) i.toNat) : (s = 0 ∧ 0 ≤ top ∧ top < ((tx t j).2.2.2.2.length : Int)) ∨ (s = 1 ∧ 0 ≤ top ∧ top < ((tx t j).2.2.2.2.length : Int)) ∨ (s = 33 ∧ 1 ≤ top ∧ top ≤ ((tx t j).2.2.2.2.length : Int)) ∨ (¬ s = 0 ∧ ¬ s = 1 ∧ ¬ s = 33 ∧ ¬ sgF s = 0 ∧ 2 ≤ top ∧ top ≤ ((tx t j).2.2.2.2.length : Int)) := by
  obtain ⟨g1, g2, g3, g4, g5⟩ := g
  have hn : i.toNat < (tx t j).2.2.1.length := by omega
  have c := vs_c (g3 _ hn)
  have w := g4 i.toNat hn
  have d := dep_cp (xcF (tx t j)) i.toNat
  have dn := (depF_nn g4 i.toNat (by omega)).1
  have m1 := cpF_le (xcF (tx t j)) i.toNat ((tx t j).2.2.1.length - i.toNat)
  have m2 := cpF_le (xcF (tx t j)) (i.toNat + 1) ((tx t j).2.2.1.length - (i.toNat + 1))
  rw [show i.toNat + ((tx t j).2.2.1.length - i.toNat) = (tx t j).2.2.1.length by omega] at m1
  rw [show i.toNat + 1 + ((tx t j).2.2.1.length - (i.toNat + 1)) = (tx t j).2.2.1.length by omega] at m2
  have e1 : cpF (xcF (tx t j)) (i.toNat + 1) = cpF (xcF (tx t j)) i.toNat + (if 0 ≤ xcF (tx t j) i.toNat then 1 else 0) := rfl
  have et : top = depF (xcF (tx t j)) i.toNat := by rw [h.1, evF_top]
  have ex : xcF (tx t j) i.toNat = trF (xsF (tx t j) i.toNat, xvF (tx t j) i.toNat) := rfl
  rw [← hs] at c
  rw [← hs] at ex
  rcases c with c | c | c | c
  · rw [if_pos (by omega)] at e1
    exact Or.inl ⟨c.1, by omega, by omega⟩
  · rw [if_pos (by omega)] at e1
    exact Or.inr (Or.inl ⟨c.1, by omega, by omega⟩)
  · have := w.1 (by omega)
    exact Or.inr (Or.inr (Or.inl ⟨c.1, by omega, by omega⟩))
  · have := w.2 (by omega) (by omega)
    exact Or.inr (Or.inr (Or.inr ⟨c.1, c.2.1, c.2.2.1, c.2.2.2.1, by omega, by omega⟩))
theorem gi_step {t u : TS} {j : Nat} {p q r i : Int} (hi : 0 ≤ i) : evF (xcF (tx t j)) p q r (xkF (tx t j)) (i + 1).toNat = ev1 (xcF (tx t j) i.toNat) p q r (evF (xcF (tx t j)) p q r (xkF (tx t j)) i.toNat) := by
  rw [show (i + 1).toNat = i.toNat + 1 by omega]
  rfl
theorem gi_push {t u v : TS} {j : Nat} {p q r top i x : Int} (g : GVx (tx t j)) (h : GIp t u j p q r top i) (hi : 0 ≤ i ∧ i < ((tx t j).2.2.1.length : Int)) (ht : 0 ≤ top ∧ top < ((tx t j).2.2.2.2.length : Int)) (hv : (xsF (tx t j) i.toNat = 0 ∧ x = xvF (tx t j) i.toNat) ∨ (xsF (tx t j) i.toNat = 1 ∧ x = faF p q r (xvF (tx t j) i.toNat))) (hx : -2147483648 ≤ x ∧ x ≤ 2147483647) (hj : j < (tD u).length) (hl : (tx u j).2.2.2.2.length = (tx t j).2.2.2.2.length) (hu : v = uX u j top.toNat x) : GIp t v j p q r (top + 1) (i + 1) := by
  have c := vs_c (g.2.2.1 i.toNat (by omega))
  have ec : 0 ≤ xcF (tx t j) i.toNat ∧ opF p q r (xcF (tx t j) i.toNat) = x := by
    unfold xcF opF
    rcases hv with k | k
    · rcases c with c | c | c | c
      · rw [c.2.2.2, if_pos c.2.2.1]; exact ⟨c.2.1, k.2.symm⟩
      · omega
      · omega
      · omega
    · rcases c with c | c | c | c
      · omega
      · rw [c.2.2.2, if_neg (by omega), show 10000 + xvF (tx t j) i.toNat - 10000 = xvF (tx t j) i.toNat by omega]
        exact ⟨by omega, k.2.symm⟩
      · omega
      · omega
  obtain ⟨h1, h2⟩ := h
  unfold GIp
  rw [gi_step (u := u) hi.1]
  unfold ev1
  rw [if_pos ec.1, ec.2, ← h1]
  refine ⟨rfl, fun m hm => ?_⟩
  rw [hu, xk_uX hj (by omega) hx]
  show upF _ _ _ m = upF _ _ _ m
  unfold upF
  rw [h2 m hm]
theorem gi_not {t u v : TS} {j : Nat} {p q r top i x a : Int} (g : GVx (tx t j)) (h : GIp t u j p q r top i) (hi : 0 ≤ i ∧ i < ((tx t j).2.2.1.length : Int)) (ht : 1 ≤ top ∧ top ≤ ((tx t j).2.2.2.2.length : Int)) (hs : xsF (tx t j) i.toNat = 33) (ha : a = xkF (tx u j) (top - 1).toNat) (hv : (a = 0 ∧ x = 1) ∨ (¬ a = 0 ∧ x = 0)) (hj : j < (tD u).length) (hl : (tx u j).2.2.2.2.length = (tx t j).2.2.2.2.length) (hu : v = uX u j (top - 1).toNat x) : GIp t v j p q r top (i + 1) := by
  have c := vs_c (g.2.2.1 i.toNat (by omega))
  have ec : xcF (tx t j) i.toNat = -10 := by
    unfold xcF
    rcases c with c | c | c | c
    · omega
    · omega
    · exact c.2
    · omega
  obtain ⟨h1, h2⟩ := h
  unfold GIp
  rw [gi_step (u := u) hi.1]
  unfold ev1
  rw [ec, if_neg (by decide), if_pos rfl, ← h1, ← h2 (top - 1).toNat (by omega), ← ha]
  refine ⟨rfl, fun m hm => ?_⟩
  rw [hu, xk_uX hj (by omega) (by omega)]
  show upF _ _ _ m = upF _ _ _ m
  unfold upF
  rw [h2 m hm]
  by_cases e : m = (top - 1).toNat
  · rw [if_pos e, if_pos e]
    rcases hv with k | k
    · rw [if_pos k.1, k.2]
    · rw [if_neg k.1, k.2]
  · rw [if_neg e, if_neg e]
theorem gi_two {t u v : TS} {j : Nat} {p q r top i x a b top2 : Int} (g : GVx (tx t j)) (h : GIp t u j p q r top i) (hi : 0 ≤ i ∧ i < ((tx t j).2.2.1.length : Int)) (ht : 2 ≤ top ∧ top ≤ ((tx t j).2.2.2.2.length : Int)) (h0 : ¬ xsF (tx t j) i.toNat = 0) (h1 : ¬ xsF (tx t j) i.toNat = 1) (h33 : ¬ xsF (tx t j) i.toNat = 33) (ha : a = xkF (tx u j) (top - 2).toNat) (hb : b = xkF (tx u j) (top - 1).toNat) (hv : x = twF (sgF (xsF (tx t j) i.toNat)) a b) (hx : -2147483648 ≤ x ∧ x ≤ 2147483647) (hj : j < (tD u).length) (hl : (tx u j).2.2.2.2.length = (tx t j).2.2.2.2.length) (hu : v = uX u j (top - 2).toNat x) (e2 : top2 = top - 1) : GIp t v j p q r top2 (i + 1) := by
  have c := vs_c (g.2.2.1 i.toNat (by omega))
  have ec : xcF (tx t j) i.toNat = sgF (xsF (tx t j) i.toNat) ∧ -9 ≤ sgF (xsF (tx t j) i.toNat) ∧ sgF (xsF (tx t j) i.toNat) < 0 := by
    unfold xcF
    rcases c with c | c | c | c
    · omega
    · omega
    · omega
    · exact c.2.2.2.2
  obtain ⟨k1, k2⟩ := h
  unfold GIp
  rw [gi_step (u := u) hi.1]
  unfold ev1
  rw [ec.1, if_neg (by omega), if_neg (by omega), ← k1, ← k2 (top - 2).toNat (by omega), ← k2 (top - 1).toNat (by omega), ← ha, ← hb, ← hv]
  refine ⟨e2, fun m hm => ?_⟩
  rw [hu, xk_uX hj (by omega) hx]
  show upF _ _ _ m = upF _ _ _ m
  unfold upF
  rw [k2 m hm]
theorem gi_e {t u : TS} {j : Nat} {p q r top i : Int} (g : GVx (tx t j)) (h : GIp t u j p q r top i) (hi : i = ((tx t j).2.2.1.length : Int)) : 1 ≤ top ∧ (1 ≤ (tx t j).2.2.2.2.length) ∧ xkF (tx u j) 0 = evX (tx t j) p q r := by
  obtain ⟨g1, g2, g3, g4, g5⟩ := g
  obtain ⟨h1, h2⟩ := h
  rw [show i.toNat = (tx t j).2.2.1.length by omega] at h1 h2
  rw [evF_top] at h1
  have d := (depF_nn g4 _ (Nat.le_refl _)).2 g2
  have e := dep_cp (xcF (tx t j)) (tx t j).2.2.1.length
  refine ⟨by omega, by omega, ?_⟩
  rw [h2 0 (by omega)]
  exact evF_res g4 g2
/-! darks -/
theorem dk_N0 {t : TS} {b : Nat} {s r k l z : Int} (h : none = lwF t b 0) (hr : 0 ≤ r) (hk : k = tA t (b + 1) s.toNat) (hl : l = tA t (b + 2) s.toNat) (hz : z = dkF k (max 0 (min 99 (15 * l)))) : z = dkC t b s.toNat r.toNat 0 := by
  unfold dkC pdF
  rw [← h, if_pos rfl, ← hk, ← hl, hz]
  rfl
theorem dk_N1 {t : TS} {b : Nat} {s r k l z : Int} (h : none = lwF t b 0) (hr : 0 ≤ r) (hk : k = tA t (b + 1) s.toNat) (hl : l = tA t (b + 3) s.toNat) (hz : z = dkF k (max 0 (min 99 (15 * l)))) : z = dkC t b s.toNat r.toNat 1 := by
  unfold dkC pdF
  rw [← h, if_neg (by decide), ← hk, ← hl, hz]
  rfl
theorem dk_X0 {t u : TS} {b j : Nat} {s r k l z hv : Int} (h : some (92 + 4 * j) = lwF t b 0) (hd : Dhd (tx u j) = Dhd (tx t j)) (hr : 0 ≤ r) (hk : k = tA t (b + 1) s.toNat) (hl : l = tA t (b + 2) s.toNat) (hh : hv = hvF (tA t (b + 1) s.toNat) (tA t (b + 2) s.toNat) (tA t (b + 3) s.toNat)) (hz : z = dkF k (max 0 (min 99 (evX (tx u j) l r hv)))) : z = dkC t b s.toNat r.toNat 0 := by
  unfold dkC pdF
  rw [← h, if_pos rfl, ← hh, ← hk, ← hl, hz, exF_j, evX_hd hd, Int.toNat_of_nonneg hr]
theorem dk_X1 {t u : TS} {b j : Nat} {s r k l z hv : Int} (h : some (92 + 4 * j) = lwF t b 0) (hd : Dhd (tx u j) = Dhd (tx t j)) (hr : 0 ≤ r) (hk : k = tA t (b + 1) s.toNat) (hl : l = tA t (b + 3) s.toNat) (hh : hv = hvF (tA t (b + 1) s.toNat) (tA t (b + 2) s.toNat) (tA t (b + 3) s.toNat)) (hz : z = dkF k (max 0 (min 99 (evX (tx u j) l r hv)))) : z = dkC t b s.toNat r.toNat 1 := by
  unfold dkC pdF
  rw [← h, if_neg (by decide), ← hh, ← hk, ← hl, hz, exF_j, evX_hd hd, Int.toNat_of_nonneg hr]
def DNp (t u : TS) (b s : Nat) (r : Nat) : Prop := (∀ r' v : Nat, r' < r → v < 2 → tA u (b + 8) ((s * 4 + r') * 2 + v) = dkC t b s r' v) ∧ ∀ i : Nat, (i < 8 * s ∨ 8 * s + 8 ≤ i) → tA u (b + 8) i = tA t (b + 8) i
theorem dn_0 (t : TS) (b s : Nat) : DNp t t b s 0 := ⟨fun r' v h => by omega, fun _ _ => rfl⟩
theorem dn_s {t u a c d e : TS} {b : Nat} {s r x y v w : Int} (h : DNp t u b s.toNat r.toNat) (h0 : 0 ≤ s ∧ 0 ≤ r ∧ r < 4) (ea : tA a = tA u) (ec : c = uA a (b + 8) x.toNat v) (ed : tA d = tA c) (ee : e = uA d (b + 8) y.toNat w) (hx : x = (s * 4 + r) * 2 + 0) (hy : y = (s * 4 + r) * 2 + 1) (hv : v = dkC t b s.toNat r.toNat 0) (hw : w = dkC t b s.toNat r.toNat 1) : DNp t e b s.toNat (r + 1).toNat := by
  have k : ∀ i, tA e (b + 8) i = if i = y.toNat then w else if i = x.toNat then v else tA u (b + 8) i := by
    intro i
    rw [ee, tA_uA, ed, ec, tA_uA, ea]
    by_cases q : i = y.toNat
    · rw [if_pos ⟨rfl, q⟩, if_pos q]
    · rw [if_neg (fun z => q z.2), if_neg q]
      by_cases q2 : i = x.toNat
      · rw [if_pos ⟨rfl, q2⟩, if_pos q2]
      · rw [if_neg (fun z => q2 z.2), if_neg q2]
  refine ⟨fun r' z hr hz => ?_, fun i hi => ?_⟩
  · rw [k]
    by_cases q : r' = r.toNat
    · subst q
      have z01 : z = 0 ∨ z = 1 := by omega
      rcases z01 with rfl | rfl
      · rw [if_neg (by omega), if_pos (by omega)]; exact hv
      · rw [if_pos (by omega)]; exact hw
    · rw [if_neg (by omega), if_neg (by omega)]
      exact h.1 r' z (by omega) hz
  · rw [k, if_neg (by omega), if_neg (by omega)]
    exact h.2 i hi
/-! one more stone -/
def ASp (t u : TS) (b : Nat) : Prop := (∀ i : Nat, tA u (b + 4) i = if i = (tI t b 10).toNat then 12 else tA t (b + 4) i) ∧ (∀ i : Nat, tA u (b + 5) i = if i = (tI t b 10).toNat then 0 else tA t (b + 5) i) ∧ (∀ r v : Nat, r < 4 → v < 2 → tA u (b + 8) (((tI t b 10).toNat * 4 + r) * 2 + v) = dkC u b (tI t b 10).toNat r v) ∧ ∀ i : Nat, (i < 8 * (tI t b 10).toNat ∨ 8 * (tI t b 10).toNat + 8 ≤ i) → tA u (b + 8) i = tA t (b + 8) i
theorem dkC_fr {S : List (Nat × Nat)} {t u : TS} (f : Fr S t u) {b : Nat} (h1 : (b + 1, 100) ∉ S) (h2 : (b + 2, 100) ∉ S) (h3 : (b + 3, 100) ∉ S) (h10 : (b + 10, 100) ∉ S) (h11 : (b, 11) ∉ S) (h9 : (b + 9, 101) ∉ S) (s r v : Nat) : dkC u b s r v = dkC t b s r v := dkC_mv (f.2.1 _ h10) (f.1 _ _ h11) (f.2.2.1 _ h9) f.2.2.2.2 (f.2.1 _ h1 s) (f.2.1 _ h2 s) (f.2.1 _ h3 s) r v
theorem as_hc {t u : TS} {b : Nat} (h : HCt t b) (a : ASp t u b) (h6 : ∀ i, tA u (b + 6) i = tA t (b + 6) i) (hn : tI u b 10 = tI t b 10 + 1) (h0 : 0 ≤ tI t b 10) : HCt u b := by
  unfold HCt
  rw [show (tI u b 10).toNat = (tI t b 10).toNat + 1 by omega]
  refine (HC.add h (fun s hs => ?_) ?_).H (fun i _ => h6 i)
  · rw [a.1, if_neg (by omega)]
  · rw [a.1, if_pos rfl]
theorem as_dk {t u : TS} {b : Nat} (h : DK t b (tI t b 10)) (a : ASp t u b) (hn : tI u b 10 = tI t b 10 + 1) (h0 : 0 ≤ tI t b 10) (h10 : ∀ i, tA u (b + 10) i = tA t (b + 10) i) (h11 : tI u b 11 = tI t b 11) (h9 : ∀ i, tT u (b + 9) i = tT t (b + 9) i) (hd : (tD u).map Dhd = (tD t).map Dhd) (k1 : ∀ i, ¬ i = (tI t b 10).toNat → tA u (b + 1) i = tA t (b + 1) i) (k2 : ∀ i, ¬ i = (tI t b 10).toNat → tA u (b + 2) i = tA t (b + 2) i) (k3 : ∀ i, ¬ i = (tI t b 10).toNat → tA u (b + 3) i = tA t (b + 3) i) : DK u b (tI u b 10) := by
  intro s r v hs hr hv
  by_cases e : s = (tI t b 10).toNat
  · rw [e]
    exact a.2.2.1 r v hr hv
  · rw [a.2.2.2 _ (by omega), dkC_mv h10 h11 h9 hd (k1 s e) (k2 s e) (k3 s e)]
    exact h s r v (by omega) hr hv
/-! one more text -/
def ATp (t u : TS) (b j : Nat) : Prop := tI u b 11 = tI t b 11 + 1 ∧ (∀ i : Nat, tT u (b + 9) i = if i = (tI t b 11).toNat then some (92 + 4 * j) else tT t (b + 9) i) ∧ (∀ i : Nat, tA u (b + 10) i = if i = (tx t j).1.toNat then tI t b 11 else tA t (b + 10) i) ∧ ((¬ (tx t j).1 = 0 ∧ ∀ i, tA u (b + 8) i = tA t (b + 8) i) ∨ ((tx t j).1 = 0 ∧ DK u b (tI t b 10)))
end
section
/-! ===== the reference's views ===== -/
def coF (A : Nat → Int) (q : Int) : Nat → Int
  | 0 => -1
  | k + 1 => if A k / 1000 = q then (k : Int) else coF A q k
theorem coF_b (A : Nat → Int) (q : Int) : ∀ n : Nat, -1 ≤ coF A q n ∧ coF A q n ≤ (n : Int) - 1
  | 0 => by unfold coF; omega
  | n + 1 => by
    have := coF_b A q n
    unfold coF
    split <;> omega
theorem coF_at {A : Nat → Int} {q : Int} : ∀ {n : Nat}, ¬ coF A q n = -1 → A (coF A q n).toNat / 1000 = q
  | 0, h => absurd rfl h
  | n + 1, h => by
    unfold coF at h ⊢
    by_cases e : A n / 1000 = q
    · rw [if_pos e]
      simpa using e
    · rw [if_neg e] at h ⊢
      exact coF_at h
theorem coF_cg {A B : Nat → Int} {q : Int} : ∀ {n : Nat}, (∀ k, k < n → A k = B k) → coF A q n = coF B q n
  | 0, _ => rfl
  | n + 1, h => by
    unfold coF
    rw [coF_cg (fun k hk => h k (by omega)), h n (by omega)]
theorem coF_s {A : Nat → Int} {q : Int} {x : Int} (hx : 0 ≤ x) (e : ¬ A x.toNat / 1000 = q) : coF A q (x + 1).toNat = coF A q x.toNat := by
  rw [show (x + 1).toNat = x.toNat + 1 by omega]
  show (if _ then _ else _) = _
  rw [if_neg e]
theorem coF_h {A : Nat → Int} {q : Int} {x : Int} (hx : 0 ≤ x) (e : A x.toNat / 1000 = q) : coF A q (x + 1).toNat = x := by
  rw [show (x + 1).toNat = x.toNat + 1 by omega]
  show (if _ then _ else _) = _
  rw [if_pos e]
  omega
def rkA (t : TS) (c : Nat) : Nat → Int := fun k => tA t c (89 + 2 * k)
def rcA (t : TS) (c k : Nat) : Nat → Int := fun i => tA t c (117 + 96 * k + i)
def rnA (t : TS) (c k : Nat) : Nat := (tA t c (89 + 2 * k) % 1000).toNat
def cuA (t : TS) (c : Nat) (q : Int) : Int := coF (rkA t c) q (tA t c 4).toNat
def exR (t : TS) (c : Nat) (q d f0 f1 f2 : Int) : Int := if cuA t c q = -1 then d else evR (rcA t c (cuA t c q).toNat) f0 f1 f2 (rnA t c (cuA t c q).toNat)
def hvA (t : TS) (c s : Nat) : Int := hvF (tA t c (29 + 5 * s)) (tA t c (30 + 5 * s)) (tA t c (31 + 5 * s))
def dkA (t : TS) (c s : Nat) (p r : Int) : Int := dkF (tA t c (29 + 5 * s)) (max 0 (min 99 (exR t c 0 (15 * p) p r (hvA t c s))))
def dkS (t : TS) (c s r u : Nat) : Int := dkA t c s (if u = 0 then tA t c (30 + 5 * s) else tA t c (31 + 5 * s)) r
def OA (t : TS) (c : Nat) : Nat → Nat → Nat → Int := fun s p u => if p < 12 then abF (dkS t c s (p / 3) u - tA t c (5 + 2 * p)) + abF (dkS t c s (p / 3) (1 - u) - tA t c (6 + 2 * p)) else 0
def NZ (t : TS) (c : Nat) : Prop := ∀ k : Nat, (k : Int) < tA t c 4 → 1 ≤ tA t c (89 + 2 * k) % 1000
def RPc (t : TS) (c : Nat) : GPU := (fun s => tA t c (32 + 5 * s), fun s => tA t c (33 + 5 * s))
def RPt (t : TS) : GPU := (fun s => if (s : Int) = tI t 68 4 then 13 else tA t 69 (32 + 5 * s), fun s => tA t 69 (33 + 5 * s))
def AWp (t : TS) : Prop := tI t 68 4 = -1 ∨ tA t 69 (32 + 5 * (tI t 68 4).toNat) = 12
theorem RPt_no {t : TS} (h : tI t 68 4 = -1) : RPt t = RPc t 69 := by
  unfold RPt RPc
  congr 1
  funext s
  rw [if_neg (by omega)]
theorem ho_aw {t : TS} (ok : OK t) (h : AWp t) {p : Int} (hp : p < 12) (n : Nat) : hoF (fun s => tA t 69 (32 + 5 * s)) p n = hoF (RPt t).1 p n := by
  refine hoF_cong2 (fun s _ => ?_)
  show tA t 69 (32 + 5 * s) = p ↔ (if (s : Int) = tI t 68 4 then 13 else tA t 69 (32 + 5 * s)) = p
  by_cases e : (s : Int) = tI t 68 4
  · rw [if_pos e]
    rcases h with k | k
    · omega
    · rw [show s = (tI t 68 4).toNat by omega, k]
      omega
  · rw [if_neg e]
theorem RPt_12 {t : TS} {s : Nat} : (RPt t).1 s = 12 ↔ (tA t 69 (32 + 5 * s) = 12 ∧ ¬ (s : Int) = tI t 68 4) := by
  show (if (s : Int) = tI t 68 4 then 13 else tA t 69 (32 + 5 * s)) = 12 ↔ _
  split <;> omega
/-- what may change without any change of how texts, kinds, wants look -/
theorem OA_cg {t u : TS} {c : Nat} (h : ∀ i, ¬ i = 0 → ¬ i = 2 → (i < 29 ∨ 89 ≤ i ∨ (i - 29) % 5 < 3) → tA u c i = tA t c i) : OA u c = OA t c := by
  have e1 : rkA u c = rkA t c := funext (fun k => h _ (by omega) (by omega) (by omega))
  have e2 : ∀ k, rcA u c k = rcA t c k := fun k => funext (fun i => h _ (by omega) (by omega) (by omega))
  have e3 : ∀ k, rnA u c k = rnA t c k := fun k => by unfold rnA; rw [h _ (by omega) (by omega) (by omega)]
  have e4 : ∀ q, cuA u c q = cuA t c q := fun q => by unfold cuA; rw [e1, h 4 (by decide) (by decide) (by decide)]
  have k1 : ∀ s, tA u c (29 + 5 * s) = tA t c (29 + 5 * s) := fun s => h _ (by omega) (by omega) (by omega)
  have k2 : ∀ s, tA u c (30 + 5 * s) = tA t c (30 + 5 * s) := fun s => h _ (by omega) (by omega) (by omega)
  have k3 : ∀ s, tA u c (31 + 5 * s) = tA t c (31 + 5 * s) := fun s => h _ (by omega) (by omega) (by omega)
  have e5 : ∀ s r v, dkS u c s r v = dkS t c s r v := by
    intro s r v
    unfold dkS dkA exR hvA
    rw [e4, e2, e3, k1, k2, k3]
  funext s p v
  unfold OA
  rw [e5, e5]
  by_cases q : p < 12
  · rw [if_pos q, if_pos q, h (5 + 2 * p) (by omega) (by omega) (by omega), h (6 + 2 * p) (by omega) (by omega) (by omega)]
  · rw [if_neg q, if_neg q]
theorem OA_dq {t u : TS} (d : Dq t u) : OA u 69 = OA t 69 := OA_cg d
theorem OA_fr {S : List (Nat × Nat)} {t u : TS} (f : Fr S t u) (h : (69, 100) ∉ S) : OA u 69 = OA t 69 := OA_cg (fun i _ _ _ => f.2.1 69 h i)
/-! working a text out, in the reference -/
theorem tz_o {s x y z : Int} (hs : s = -1) (h : ((¬ x = 0 ∨ ¬ y = 0) ∧ z = 1) ∨ (x = 0 ∧ y = 0 ∧ z = 0)) : z = twF s x y := by
  subst hs
  show _ = (if ¬ x = 0 ∨ ¬ y = 0 then 1 else 0)
  split <;> omega
theorem tz_a {s x y z : Int} (hs : s = -2) (h : (¬ x = 0 ∧ ¬ y = 0 ∧ z = 1) ∨ ((x = 0 ∨ y = 0) ∧ z = 0)) : z = twF s x y := by
  subst hs
  show _ = (if ¬ x = 0 ∧ ¬ y = 0 then 1 else 0)
  split <;> omega
theorem tz_l {s x y z : Int} (hs : s = -3) (h : (x < y ∧ z = 1) ∨ (¬ x < y ∧ z = 0)) : z = twF s x y := by
  subst hs
  show _ = (if x < y then 1 else 0)
  split <;> omega
theorem tz_e {s x y z : Int} (hs : s = -4) (h : (x = y ∧ z = 1) ∨ (¬ x = y ∧ z = 0)) : z = twF s x y := by
  subst hs
  show _ = (if x = y then 1 else 0)
  split <;> omega
theorem tz_g {s x y z : Int} (hs : s = -5) (h : (y < x ∧ z = 1) ∨ (¬ y < x ∧ z = 0)) : z = twF s x y := by
  subst hs
  show _ = (if y < x then 1 else 0)
  split <;> omega
theorem tz_p {s x y z : Int} (hs : s = -6) (h : z = nrm (x + y)) : z = twF s x y := by subst hs h; rfl
theorem tz_m {s x y z : Int} (hs : s = -7) (h : z = nrm (x - y)) : z = twF s x y := by subst hs h; rfl
theorem tz_t {s x y z : Int} (hs : s = -8) (h : z = nrm (x * y)) : z = twF s x y := by subst hs h; rfl
theorem tz_x {s x y : Int} (hs : s < -8 ∨ 0 ≤ s) : twF s x y = if y = 0 then 0 else fZ (fun x y => x / y) x y := by
  unfold twF
  rw [if_neg (by omega), if_neg (by omega), if_neg (by omega), if_neg (by omega), if_neg (by omega), if_neg (by omega), if_neg (by omega), if_neg (by omega)]
theorem tz_d0 {s x y z : Int} (hs : s < -8 ∨ 0 ≤ s) (hy : y = 0) (h : z = 0) : z = twF s x y := by rw [tz_x hs, if_pos hy, h]
theorem tz_d {s x y z : Int} (hs : s < -8 ∨ 0 ≤ s) (hy : ¬ y = 0) (h : z = fZ (fun x y => x / y) x y) : z = twF s x y := by rw [tz_x hs, if_neg hy, h]
def WEp (t u : TS) (x top k : Int) : Prop := (top, tA u 81) = evF (rcA t 69 x.toNat) (tA t 82 0) (tA t 82 1) (tA t 82 2) (tA t 81) k.toNat
theorem we_0 (t : TS) (x : Int) : WEp t t x 0 0 := rfl
theorem we_s {t u v : TS} {x top k top2 : Int} (h : WEp t u x top k) (hk : 0 ≤ k) (e : (top2, tA v 81) = ev1 (rcA t 69 x.toNat k.toNat) (tA t 82 0) (tA t 82 1) (tA t 82 2) (top, tA u 81)) : WEp t v x top2 (k + 1) := by
  unfold WEp
  rw [show (k + 1).toNat = k.toNat + 1 by omega, e, show (top, tA u 81) = _ from h]
  rfl
theorem up81 {u v : TS} {i : Nat} {z : Int} (h : v = uA u 81 i z) : tA v 81 = upF (tA u 81) i z := by
  funext m
  rw [h, tA_uA]
  unfold upF
  by_cases q : m = i
  · rw [if_pos ⟨rfl, q⟩, if_pos q]
  · rw [if_neg (fun k => q k.2), if_neg q]
theorem we_n {t u v : TS} {x top k s z : Int} (h : WEp t u x top k) (hk : 0 ≤ k) (hs : s = rcA t 69 x.toNat k.toNat) (h0 : 0 ≤ s) (hz : (s < 10000 ∧ z = s) ∨ (10000 ≤ s ∧ s ≤ 10002 ∧ z = tA t 82 (s - 10000).toNat)) (hv : v = uA u 81 top.toNat z) : WEp t v x (top + 1) (k + 1) := by
  refine we_s h hk ?_
  unfold ev1
  rw [← hs, if_pos h0, up81 hv]
  have e : opF (tA t 82 0) (tA t 82 1) (tA t 82 2) s = z := by
    unfold opF faF
    rcases hz with q | q
    · rw [if_pos q.1, q.2]
    · rw [if_neg (by omega), q.2.2]
      have d : s = 10000 ∨ s = 10001 ∨ s = 10002 := by omega
      rcases d with rfl | rfl | rfl <;> rfl
  rw [e]
theorem we_t {t u v : TS} {x top k s a z : Int} (h : WEp t u x top k) (hk : 0 ≤ k) (hs : s = rcA t 69 x.toNat k.toNat) (h0 : s = -10) (ha : a = tA u 81 (top - 1).toNat) (hz : (a = 0 ∧ z = 1) ∨ (¬ a = 0 ∧ z = 0)) (hv : v = uA u 81 (top - 1).toNat z) : WEp t v x top (k + 1) := by
  refine we_s h hk ?_
  unfold ev1
  subst ha
  rw [← hs, if_neg (by omega), if_pos h0, up81 hv]
  dsimp only
  rcases hz with q | q
  · rw [if_pos q.1, q.2]
  · rw [if_neg q.1, q.2]
theorem we_2 {t u v : TS} {x top top2 k s a b z : Int} (h : WEp t u x top k) (hk : 0 ≤ k) (hs : s = rcA t 69 x.toNat k.toNat) (h0 : s < 0 ∧ ¬ s = -10) (ha : a = tA u 81 (top - 2).toNat) (hb : b = tA u 81 (top - 1).toNat) (hz : z = twF s a b) (hv : v = uA u 81 (top - 2).toNat z) (e2 : top2 = top - 1) : WEp t v x top2 (k + 1) := by
  refine we_s h hk ?_
  unfold ev1
  rw [← hs, if_neg (by omega), if_neg h0.2, up81 hv]
  dsimp only
  rw [← ha, ← hb, ← hz, e2]
theorem we_e {t u : TS} {x top k : Int} (h : WEp t u x top k) (hk : k = tA t 69 (89 + 2 * x.toNat) % 1000) (w : wfC (rcA t 69 x.toNat) (rnA t 69 x.toNat)) (h1 : 1 ≤ tA t 69 (89 + 2 * x.toNat) % 1000) : tA u 81 0 = evR (rcA t 69 x.toNat) (tA t 82 0) (tA t 82 1) (tA t 82 2) (rnA t 69 x.toNat) := by
  have e : tA u 81 = (evF (rcA t 69 x.toNat) (tA t 82 0) (tA t 82 1) (tA t 82 2) (tA t 81) k.toNat).2 := congrArg (fun q => q.2) (show (top, tA u 81) = _ from h)
  rw [e, show k.toNat = rnA t 69 x.toNat by unfold rnA; omega]
  exact evF_res w (by unfold rnA; omega)
/-! the best laying, by one number -/
theorem lbk_n {O : Nat → Nat → Int} {P : Nat → Int} {k which least way : Int} (h : lb1 O P k.toNat which least way) (hk : 0 ≤ k) (e : ¬ P (k / 2).toNat = 12 ∨ (¬ which = -1 ∧ ¬ O (k / 2).toNat (k % 2).toNat < least)) : lb1 O P (k + 1).toNat which least way := by
  refine (lb1.n h (fun q => ?_)).k (by omega)
  rw [show k.toNat / 2 = (k / 2).toNat by omega, show k.toNat % 2 = (k % 2).toNat by omega] at q
  rcases e with e | e
  · exact e q.1
  · rcases q.2 with d | d
    · exact e.1 d
    · exact e.2 d
theorem lbk_y {O : Nat → Nat → Int} {P : Nat → Int} {k which least way x : Int} (h : lb1 O P k.toNat which least way) (hk : 0 ≤ k) (hP : P (k / 2).toNat = 12) (hx : x = O (k / 2).toNat (k % 2).toNat) (e : which = -1 ∨ x < least) : lb1 O P (k + 1).toNat (k / 2) x (k % 2) := by
  refine (lb1.y h ⟨?_, ?_⟩ ?_ ?_ ?_).k (by omega)
  · rw [show k.toNat / 2 = (k / 2).toNat by omega]; exact hP
  · rw [show k.toNat / 2 = (k / 2).toNat by omega, show k.toNat % 2 = (k % 2).toNat by omega, ← hx]; exact e
  · omega
  · rw [show k.toNat / 2 = (k / 2).toNat by omega, show k.toNat % 2 = (k % 2).toNat by omega]; exact hx
  · omega
/-! a day of the reference -/
def RN (t : TS) : Nat := (tA t 69 1).toNat
def RHp (t : TS) (p : Int) : Int := hoF (fun s => tA t 69 (32 + 5 * s)) p (RN t)
theorem rh_b (t : TS) (p : Int) : -1 ≤ RHp t p ∧ RHp t p ≤ (RN t : Int) - 1 := hoF_b _ _ _
def GRp (t u : TS) (y : GPU) : Prop := RPt u = y ∧ AWp u ∧ OA u 69 = OA t 69 ∧ tA u 69 1 = tA t 69 1 ∧ tI u 68 4 = tI t 68 4
theorem GRp.rf {t : TS} (h : AWp t) : GRp t t (RPt t) := ⟨rfl, h, rfl, rfl, rfl⟩
theorem GRp.mv {t u v : TS} {y : GPU} (h : GRp t u y) (h4 : tI v 68 4 = tI u 68 4) (h1 : tA v 69 1 = tA u 69 1) (d : Dq u v) (hA : ∀ s : Nat, tA v 69 (32 + 5 * s) = tA u 69 (32 + 5 * s)) (hB : ∀ s : Nat, tA v 69 (33 + 5 * s) = tA u 69 (33 + 5 * s)) : GRp t v y := by
  obtain ⟨a1, a2, a3, a4, a5⟩ := h
  refine ⟨?_, ?_, (OA_dq d).trans a3, h1.trans a4, h4.trans a5⟩
  · rw [← a1]
    unfold RPt
    rw [h4]
    congr 1
    · funext s; rw [hA]
    · funext s; rw [hB]
  · unfold AWp
    rw [h4, hA]
    exact a2
theorem GRp.fr {S : List (Nat × Nat)} {t u v : TS} {y : GPU} (h : GRp t u y) (f : Fr S u v) (h4 : (68, 4) ∉ S) (h69 : (69, 100) ∉ S) : GRp t v y := h.mv (f.1 _ _ h4) (f.2.1 _ h69 1) (fun i _ _ _ => f.2.1 _ h69 i) (fun s => f.2.1 _ h69 _) (fun s => f.2.1 _ h69 _)
theorem GRp.u {t u v : TS} {y : GPU} {i : Nat} {z : Int} (h : GRp t u y) (e : v = uA u 69 i z) (hi : i = 0 ∨ i = 2) : GRp t v y := by
  subst e
  refine h.mv rfl (by rw [tA_uA, if_neg (by omega)]) (fun j a b c => by rw [tA_uA, if_neg (by omega)]) (fun s => by rw [tA_uA, if_neg (by omega)]) (fun s => by rw [tA_uA, if_neg (by omega)])
theorem lr_fe {t u : TS} {y : GPU} {p r : Int} (ok : OK u) (h : GRp t u y) (hr : 0 ≤ r ∧ r ≤ 3) (hp : 3 * r ≤ p ∧ p < 3 * r + 3) (hq : ∀ q : Int, 3 * r ≤ q → q < p → 0 ≤ RHp u q) (hn : RHp u p < 0) : feF (HF y.1 (tA t 69 1).toNat) r = p := by
  obtain ⟨a1, a2, a3, a4, a5⟩ := h
  have e : ∀ q : Int, 0 ≤ q → q < 12 → HF y.1 (tA t 69 1).toNat q.toNat = RHp u q := by
    intro q h0 h1
    show hoF y.1 ((q.toNat : Nat) : Int) _ = _
    rw [Int.toNat_of_nonneg h0, ← a1, ← ho_aw ok a2 h1, ← a4]
    rfl
  refine (feF_e (Or.inl ⟨by omega, by omega, ?_, fun q h1 h2 => ?_⟩)).symm
  · rw [e p (by omega) (by omega)]
    have := rh_b u p
    omega
  · rw [e q (by omega) (by omega)]
    have := hq q (by omega) h2
    omega
theorem lr_0 {t u v : TS} {y : GPU} {r : Int} (ok : OK u) (h : GRp t u y) (hr : 0 ≤ r ∧ r ≤ 3) (hq : ∀ q : Int, 3 * r ≤ q → q < 3 * r + 3 → 0 ≤ RHp u q) (f : ∀ i, tA v 69 i = tA u 69 i) (f4 : tI v 68 4 = tI u 68 4) : GRp t v (lyF (tA t 69 1).toNat (OA t 69) r y) := by
  have g := h.mv f4 (f 1) (fun i _ _ _ => f i) (fun s => f _) (fun s => f _)
  obtain ⟨a1, a2, a3, a4, a5⟩ := h
  have k : feF (HF y.1 (tA t 69 1).toNat) r = -1 := by
    refine (feF_e (Or.inr ⟨rfl, fun q h1 h2 => ?_⟩)).symm
    show ¬ hoF y.1 ((q.toNat : Nat) : Int) _ = -1
    rw [Int.toNat_of_nonneg (by omega), ← a1, ← ho_aw ok a2 (by omega), ← a4]
    have := hq q (by omega) (by omega)
    unfold RHp RN at this
    omega
  unfold lyF
  rw [if_pos k]
  exact g
theorem lr_a {t u v : TS} {y : GPU} {p r best least way k : Int} (ok : OK u) (h : GRp t u y) (hr : 0 ≤ r ∧ r ≤ 3) (hp : 3 * r ≤ p ∧ p < 3 * r + 3) (hq : ∀ q : Int, 3 * r ≤ q → q < p → 0 ≤ RHp u q) (hn : RHp u p < 0) (l : lb1 (fun s w => OA u 69 s p.toNat w) (RPt u).1 k.toNat best least way) (hk : k = 2 * tA u 69 1) (hb : best = -1) (f : ∀ i, tA v 69 i = tA u 69 i) (f4 : tI v 68 4 = tI u 68 4) : GRp t v (lyF (tA t 69 1).toNat (OA t 69) r y) := by
  have g := h.mv f4 (f 1) (fun i _ _ _ => f i) (fun s => f _) (fun s => f _)
  have fe := lr_fe ok h hr hp hq hn
  obtain ⟨a1, a2, a3, a4, a5⟩ := h
  unfold lyF
  rw [fe, if_neg (by omega)]
  have e1 := l.1
  rw [a1, a3, show k.toNat = 2 * (tA t 69 1).toNat by omega] at e1
  rw [if_pos (by rw [← hb]; exact e1.symm)]
  exact g
theorem lr_b {t u v : TS} {y : GPU} {p r best least way k : Int} (ok : OK u) (h : GRp t u y) (hr : 0 ≤ r ∧ r ≤ 3) (hp : 3 * r ≤ p ∧ p < 3 * r + 3) (hq : ∀ q : Int, 3 * r ≤ q → q < p → 0 ≤ RHp u q) (hn : RHp u p < 0) (l : lb1 (fun s w => OA u 69 s p.toNat w) (RPt u).1 k.toNat best least way) (hk : k = 2 * tA u 69 1) (hb : 0 ≤ best) (f : ∀ i, tA v 69 i = if i = 33 + 5 * best.toNat then way else if i = 32 + 5 * best.toNat then p else tA u 69 i) (f4 : tI v 68 4 = tI u 68 4) : GRp t v (lyF (tA t 69 1).toNat (OA t 69) r y) := by
  have fe := lr_fe ok h hr hp hq hn
  have lr := lbF_r (fun s w => OA u 69 s p.toNat w) (RPt u).1 k.toNat
  obtain ⟨e1, e2, e3⟩ := l
  obtain ⟨a1, a2, a3, a4, a5⟩ := h
  have pb : (RPt u).1 best.toNat = 12 := by
    rw [e1]
    rcases lr.1 with q | q
    · omega
    · exact q.2.2
  have nb := (RPt_12.mp pb).2
  have hn12 := (ok.a (ax_69 nr_1)).2
  have hb12 : best < 12 := by
    rcases lr.1 with q | q <;> omega
  rw [a1, a3, show k.toNat = 2 * (tA t 69 1).toNat by omega] at e1 e3
  have fA : ∀ s : Nat, tA v 69 (32 + 5 * s) = if s = best.toNat then p else tA u 69 (32 + 5 * s) := by
    intro s
    rw [f, if_neg (by omega)]
    by_cases q : s = best.toNat
    · rw [if_pos q, if_pos (by omega)]
    · rw [if_neg q, if_neg (by omega)]
  have fB : ∀ s : Nat, tA v 69 (33 + 5 * s) = if s = best.toNat then way else tA u 69 (33 + 5 * s) := by
    intro s
    rw [f]
    by_cases q : s = best.toNat
    · rw [if_pos q, if_pos (by omega)]
    · rw [if_neg q, if_neg (by omega), if_neg (by omega)]
  refine ⟨?_, ?_, ?_, ?_, f4.trans a5⟩
  · unfold lyF
    rw [fe, if_neg (by omega), if_neg (by rw [← e1]; omega), ← e1, ← e3, ← a1]
    unfold RPt
    rw [f4]
    congr 1
    · funext s
      show _ = upF _ _ _ s
      unfold upF
      rw [fA]
      by_cases q : s = best.toNat
      · rw [if_pos q, if_pos q, if_neg (by omega)]
      · rw [if_neg q, if_neg q]
    · funext s
      show _ = upF _ _ _ s
      unfold upF
      rw [fB]
  · unfold AWp
    rw [f4, fA]
    rcases a2 with q | q
    · exact Or.inl q
    · by_cases z : tI u 68 4 = -1
      · exact Or.inl z
      · have r4 := ok.f fe_68_4
        rw [if_neg (by omega)]
        exact Or.inr q
  · rw [← a3]
    refine OA_cg (fun i _ _ c => ?_)
    rw [f, if_neg (by omega), if_neg (by omega)]
  · rw [f, if_neg (by omega), if_neg (by omega)]
    exact a4
theorem tr_0 {t u : TS} {y : GPU} {p : Int} (ok : OK u) (h : GRp t u y) (hp : 0 ≤ p ∧ p < 12) (hn : RHp u p < 0) : GRp t u (tuF (tA t 69 1).toNat p y) := by
  obtain ⟨a1, a2, a3, a4, a5⟩ := h
  have e : hoF y.1 p (tA t 69 1).toNat = RHp u p := by
    rw [← a1, ← ho_aw ok a2 hp.2, ← a4]
    rfl
  have b := rh_b u p
  unfold tuF
  rw [e, if_pos (by omega)]
  exact ⟨a1, a2, a3, a4, a5⟩
theorem tr_1 {t u v : TS} {y : GPU} {p s : Int} (ok : OK u) (h : GRp t u y) (hp : 0 ≤ p ∧ p < 12) (hs : s = RHp u p) (hn : ¬ s < 0) (hv : v = uA u 69 (33 + 5 * s.toNat) (1 - tA u 69 (33 + 5 * s.toNat))) : GRp t v (tuF (tA t 69 1).toNat p y) := by
  obtain ⟨a1, a2, a3, a4, a5⟩ := h
  have e : hoF y.1 p (tA t 69 1).toNat = RHp u p := by
    rw [← a1, ← ho_aw ok a2 hp.2, ← a4]
    rfl
  have hn12 := (ok.a (ax_69 nr_1)).2
  have hb := rh_b u p
  unfold RN at hb
  have f : ∀ i, tA v 69 i = if i = 33 + 5 * s.toNat then 1 - tA u 69 (33 + 5 * s.toNat) else tA u 69 i := by
    intro i
    rw [hv, tA_uA]
    by_cases q : i = 33 + 5 * s.toNat
    · rw [if_pos ⟨rfl, q⟩, if_pos q]
    · rw [if_neg (fun k => q k.2), if_neg q]
  have f4 : tI v 68 4 = tI u 68 4 := by rw [hv]; rfl
  refine ⟨?_, ?_, ?_, ?_, f4.trans a5⟩
  · unfold tuF
    rw [e, ← hs, if_neg (by omega), ← a1]
    unfold RPt
    rw [f4]
    congr 1
    · funext k
      rw [f, if_neg (show ¬ 32 + 5 * k = 33 + 5 * s.toNat by omega)]
    · funext k
      show _ = upF _ _ _ k
      unfold upF
      rw [f]
      by_cases q : k = s.toNat
      · rw [if_pos q, if_pos (by omega)]
      · rw [if_neg q, if_neg (by omega)]
  · unfold AWp
    rw [f4, f, if_neg (by omega)]
    exact a2
  · rw [← a3]
    refine OA_cg (fun i _ _ c => ?_)
    rw [f, if_neg (by omega)]
  · rw [f, if_neg (by omega)]
    exact a4
theorem gr_d0 {t u : TS} {z w : Int} {n : Nat} {O : Nat → Nat → Nat → Int} {y : GPU} (h : GRp t u (lyF n O (drF (znF z) % 4) y)) (e : ¬ drF (znF (znF z)) % 100 < w) : GRp t u (dyF n O w z y) := by
  unfold dyF
  rw [if_neg e]
  exact h
theorem gr_d1 {t u : TS} {z w : Int} {n : Nat} {O : Nat → Nat → Nat → Int} {y : GPU} (h : GRp t u (tuF n (drF (znF (znF (znF z))) % 12) (lyF n O (drF (znF z) % 4) y))) (e : drF (znF (znF z)) % 100 < w) : GRp t u (dyF n O w z y) := by
  unfold dyF
  rw [if_pos e]
  exact h
theorem gr_s {t u v : TS} {w z z0 : Int} {k : Nat} (h : GRp t u (dysF (tA t 69 1).toNat (OA t 69) w z0 k (RPt t))) (h' : GRp u v (dyF (tA u 69 1).toNat (OA u 69) w z (RPt u))) (hz : z = zdsF k z0 w) : GRp t v (dysF (tA t 69 1).toNat (OA t 69) w z0 (k + 1) (RPt t)) := by
  obtain ⟨a1, a2, a3, a4, a5⟩ := h
  obtain ⟨c1, c2, c3, c4, c5⟩ := h'
  refine ⟨?_, c2, c3.trans a3, c4.trans a4, c5.trans a5⟩
  rw [c1, a1, a3, a4, hz]
  rfl
/-! reading off -/
theorem rh_e {t : TS} (ok : OK t) (h : AWp t) {p : Int} (hp : 0 ≤ p ∧ p < 12) : RHp t p = HF (RPt t).1 (tA t 69 1).toNat p.toNat := by
  show _ = hoF (RPt t).1 ((p.toNat : Nat) : Int) _
  rw [Int.toNat_of_nonneg hp.1, ← ho_aw ok h hp.2]
  rfl
def LA (t : TS) (c : Nat) : Nat → Int := fun s => tA t c (30 + 5 * s)
def RA (t : TS) (c : Nat) : Nat → Int := fun s => tA t c (31 + 5 * s)
def AA (t : TS) (c : Nat) : Nat → Int := fun s => tA t c (32 + 5 * s)
theorem falls_s {hv H : Nat → Int} {i n w q : Int} (hi : 0 ≤ i ∧ i < 12) (hq : q = H i.toNat) (e1 : ¬ q = -1) (e2 : ¬ (0 < n ∧ 2 * w < hv q.toNat)) : faS hv H (12 - i).toNat i.toNat n w = faS hv H (12 - (i + 1)).toNat (i + 1).toNat (n + 1) (hv q.toNat) := by
  subst hq
  exact faS_1 hi e1 e2
end
