/-! ===== what a text gives, as a function of its code ===== -/
def twF (x a b : Int) : Int := if x = -1 then (if ¬ a = 0 ∨ ¬ b = 0 then 1 else 0) else if x = -2 then (if ¬ a = 0 ∧ ¬ b = 0 then 1 else 0) else if x = -3 then (if a < b then 1 else 0) else if x = -4 then (if a = b then 1 else 0) else if x = -5 then (if b < a then 1 else 0) else if x = -6 then nrm (a + b) else if x = -7 then nrm (a - b) else if x = -8 then nrm (a * b) else (if b = 0 then 0 else fZ (fun x y => x / y) a b)
def faF (f0 f1 f2 i : Int) : Int := if i = 0 then f0 else if i = 1 then f1 else f2
def opF (f0 f1 f2 x : Int) : Int := if x < 10000 then x else faF f0 f1 f2 (x - 10000)
def ev1 (x f0 f1 f2 : Int) (q : Int × (Nat → Int)) : Int × (Nat → Int) :=
  if 0 ≤ x then (q.1 + 1, upF q.2 q.1.toNat (opF f0 f1 f2 x)) else if x = -10 then (q.1, upF q.2 (q.1 - 1).toNat (if q.2 (q.1 - 1).toNat = 0 then 1 else 0)) else (q.1 - 1, upF q.2 (q.1 - 2).toNat (twF x (q.2 (q.1 - 2).toNat) (q.2 (q.1 - 1).toNat)))
def evF (X : Nat → Int) (f0 f1 f2 : Int) (S : Nat → Int) : Nat → Int × (Nat → Int)
  | 0 => (0, S)
  | k + 1 => ev1 (X k) f0 f1 f2 (evF X f0 f1 f2 S k)
def evR (X : Nat → Int) (f0 f1 f2 : Int) (n : Nat) : Int := (evF X f0 f1 f2 (fun _ => 0) n).2 0
theorem evF_top (X : Nat → Int) (f0 f1 f2 : Int) (S : Nat → Int) : ∀ k : Nat, (evF X f0 f1 f2 S k).1 = depF X k
  | 0 => rfl
  | k + 1 => by
    have ih := evF_top X f0 f1 f2 S k
    unfold evF ev1 depF
    rw [← ih]
    split
    · rfl
    · split <;> rfl
theorem depF_nn {X : Nat → Int} {n : Nat} (w : wfC X n) : ∀ k : Nat, k ≤ n → 0 ≤ depF X k ∧ (1 ≤ k → 1 ≤ depF X k)
  | 0, _ => ⟨Int.le_refl 0, fun h => by omega⟩
  | k + 1, h => by
    have ih := depF_nn w k (by omega)
    obtain ⟨w1, w2⟩ := w k (by omega)
    unfold depF
    split
    · omega
    · split
      · have := w1 (by omega); omega
      · have := w2 (by omega) (by assumption); omega
theorem evF_gb {X : Nat → Int} {n : Nat} {f0 f1 f2 : Int} {S S' : Nat → Int} (w : wfC X n) : ∀ k : Nat, k ≤ n → ∀ i : Nat, (i : Int) < depF X k → (evF X f0 f1 f2 S k).2 i = (evF X f0 f1 f2 S' k).2 i
  | 0, _, i, hi => by
    have : depF X 0 = 0 := rfl
    omega
  | k + 1, h, i, hi => by
    have ih := evF_gb (f0 := f0) (f1 := f1) (f2 := f2) (S := S) (S' := S') w k (by omega)
    obtain ⟨w1, w2⟩ := w k (by omega)
    have a := evF_top X f0 f1 f2 S k
    have b := evF_top X f0 f1 f2 S' k
    unfold depF at hi
    unfold evF ev1
    rw [a, b]
    by_cases e : 0 ≤ X k
    · rw [if_pos e] at hi
      rw [if_pos e, if_pos e]
      show upF _ _ _ i = upF _ _ _ i
      unfold upF
      by_cases q : i = (depF X k).toNat
      · rw [if_pos q, if_pos q]
      · rw [if_neg q, if_neg q]; exact ih i (by omega)
    · rw [if_neg e] at hi
      rw [if_neg e, if_neg e]
      have d1 := w1 (by omega)
      by_cases e2 : X k = -10
      · rw [if_pos e2] at hi
        rw [if_pos e2, if_pos e2]
        show upF _ _ _ i = upF _ _ _ i
        unfold upF
        rw [ih (depF X k - 1).toNat (by omega), ih i (by omega)]
      · rw [if_neg e2] at hi
        have d2 := w2 (by omega) e2
        rw [if_neg e2, if_neg e2]
        show upF _ _ _ i = upF _ _ _ i
        unfold upF
        rw [ih (depF X k - 1).toNat (by omega), ih (depF X k - 2).toNat (by omega), ih i (by omega)]
theorem evF_res {X : Nat → Int} {n : Nat} {f0 f1 f2 : Int} {S : Nat → Int} (w : wfC X n) (hn : 1 ≤ n) : (evF X f0 f1 f2 S n).2 0 = evR X f0 f1 f2 n := evF_gb w n (Nat.le_refl _) 0 ((depF_nn w n (Nat.le_refl _)).2 hn)
theorem evF_cg {X X' : Nat → Int} {f0 f1 f2 f2' : Int} {S : Nat → Int} : ∀ {n : Nat}, (∀ i, i < n → X i = X' i ∧ (f2 = f2' ∨ X' i < 10002)) → evF X f0 f1 f2 S n = evF X' f0 f1 f2' S n
  | 0, _ => rfl
  | n + 1, h => by
    obtain ⟨h1, h2⟩ := h n (by omega)
    have e : opF f0 f1 f2 (X' n) = opF f0 f1 f2' (X' n) := by
      rcases h2 with h2 | h2
      · rw [h2]
      · unfold opF faF
        (repeat' split) <;> first | rfl | omega
    unfold evF ev1
    rw [evF_cg (fun i hi => h i (by omega)), h1, e]
theorem evR_cg {X X' : Nat → Int} {f0 f1 f2 f2' : Int} {n : Nat} (h : ∀ i, i < n → X i = X' i ∧ (f2 = f2' ∨ X' i < 10002)) : evR X f0 f1 f2 n = evR X' f0 f1 f2' n := by
  unfold evR
  rw [evF_cg h]
def cpF (X : Nat → Int) : Nat → Int
  | 0 => 0
  | k + 1 => cpF X k + (if 0 ≤ X k then 1 else 0)
theorem cpF_le (X : Nat → Int) (k : Nat) : ∀ j : Nat, cpF X k ≤ cpF X (k + j)
  | 0 => Int.le_refl _
  | j + 1 => by
    have := cpF_le X k j
    show cpF X k ≤ cpF X (k + j) + (if 0 ≤ X (k + j) then 1 else 0)
    split <;> omega
theorem dep_cp (X : Nat → Int) : ∀ k : Nat, depF X k ≤ cpF X k
  | 0 => Int.le_refl 0
  | k + 1 => by
    have := dep_cp X k
    unfold depF cpF
    split
    · omega
    · split <;> omega
/-! what a text's object holds -/
def xsF (x : TX) (i : Nat) : Int := (x.2.2.1.getD i 0).toInt
def xvF (x : TX) (i : Nat) : Int := (x.2.2.2.1.getD i 0).toInt
def xcF (x : TX) : Nat → Int := fun i => trF (xsF x i, xvF x i)
def xkF (x : TX) : Nat → Int := fun i => (x.2.2.2.2.getD i 0).toInt
def vsP (q s v : Int) : Prop := (s = 0 ∧ 0 ≤ v ∧ v < 10000) ∨ (s = 1 ∧ 0 ≤ v ∧ v ≤ 2 ∧ (q = 1 → v ≤ 1)) ∨ s = 33 ∨ ¬ sgF s = 0
def GVx (x : TX) : Prop := x.2.2.2.1.length = x.2.2.1.length ∧ 1 ≤ x.2.2.1.length ∧ (∀ i, i < x.2.2.1.length → vsP x.1 (xsF x i) (xvF x i)) ∧ wfC (xcF x) x.2.2.1.length ∧ cpF (xcF x) x.2.2.1.length ≤ (x.2.2.2.2.length : Int)
def evX (x : TX) (f0 f1 f2 : Int) : Int := evR (xcF x) f0 f1 f2 x.2.2.1.length
theorem sg_b (s : Int) : -9 ≤ sgF s ∧ sgF s ≤ 0 := by
  unfold sgF
  (repeat' split) <;> omega
theorem sg_c {s : Int} (h : ¬ sgF s = 0) : s = 124 ∨ s = 38 ∨ s = 60 ∨ s = 61 ∨ s = 62 ∨ s = 43 ∨ s = 45 ∨ s = 42 ∨ s = 47 := by
  unfold sgF at h
  (repeat' split at h) <;> omega
theorem vs_c {q s v : Int} (h : vsP q s v) : (s = 0 ∧ 0 ≤ v ∧ v < 10000 ∧ trF (s, v) = v) ∨ (s = 1 ∧ 0 ≤ v ∧ v ≤ 2 ∧ trF (s, v) = 10000 + v) ∨ (s = 33 ∧ trF (s, v) = -10) ∨ (¬ s = 0 ∧ ¬ s = 1 ∧ ¬ s = 33 ∧ ¬ sgF s = 0 ∧ trF (s, v) = sgF s ∧ -9 ≤ sgF s ∧ sgF s < 0) := by
  unfold trF
  simp only []
  rcases h with h | h | h | h
  · left; rw [if_pos h.1]; exact ⟨h.1, h.2.1, h.2.2, rfl⟩
  · right; left; rw [if_neg (by omega), if_pos h.1]; exact ⟨h.1, h.2.1, h.2.2.1, rfl⟩
  · right; right; left; rw [if_neg (by omega), if_neg (by omega), if_pos h]; exact ⟨h, rfl⟩
  · right; right; right
    have c := sg_c h
    have b := sg_b s
    rw [if_neg (by omega), if_neg (by omega), if_neg (by omega)]
    exact ⟨by omega, by omega, by omega, h, rfl, b.1, by omega⟩
theorem Dhd_1 {x y : TX} (h : Dhd x = Dhd y) : x.1 = y.1 ∧ x.2.1 = y.2.1 ∧ x.2.2.1 = y.2.2.1 ∧ x.2.2.2.1 = y.2.2.2.1 ∧ x.2.2.2.2.length = y.2.2.2.2.length :=
  ⟨congrArg (fun q => q.1) h, congrArg (fun q => q.2.1) h, congrArg (fun q => q.2.2.1) h, congrArg (fun q => q.2.2.2.1) h, congrArg (fun q => q.2.2.2.2) h⟩
theorem xcF_hd {x y : TX} (h : Dhd x = Dhd y) : xcF x = xcF y := by
  obtain ⟨h1, h2, h3, h4, h5⟩ := Dhd_1 h
  unfold xcF xsF xvF
  rw [h3, h4]
theorem GVx.hd {x y : TX} (g : GVx x) (h : Dhd x = Dhd y) : GVx y := by
  have e := xcF_hd h
  obtain ⟨h1, h2, h3, h4, h5⟩ := Dhd_1 h
  obtain ⟨g1, g2, g3, g4, g5⟩ := g
  unfold GVx
  rw [← e, ← h1, ← h3, ← h4, ← h5]
  refine ⟨g1, g2, fun i hi => ?_, g4, g5⟩
  have := g3 i hi
  unfold xsF xvF at this ⊢
  rw [← h3, ← h4]
  exact this
theorem evX_hd {x y : TX} (h : Dhd x = Dhd y) (f0 f1 f2 : Int) : evX x f0 f1 f2 = evX y f0 f1 f2 := by
  unfold evX
  rw [xcF_hd h, (Dhd_1 h).2.2.1]
def GD (t : TS) : Prop := ∀ j, j < (tD t).length → GVx (tx t j)
theorem tx_hd {t u : TS} (h : (tD u).map Dhd = (tD t).map Dhd) (j : Nat) : Dhd (tx u j) = Dhd (tx t j) := by
  have h1 : ((tD u).map Dhd)[j]? = ((tD t).map Dhd)[j]? := by rw [h]
  rw [List.getElem?_map, List.getElem?_map] at h1
  show Dhd ((tD u).getD j _) = Dhd ((tD t).getD j _)
  rw [List.getD_eq_getElem?_getD, List.getD_eq_getElem?_getD]
  revert h1
  cases (tD u)[j]? <;> cases (tD t)[j]? <;> intro h1 <;> simp_all
theorem hd_len {t u : TS} (h : (tD u).map Dhd = (tD t).map Dhd) : (tD u).length = (tD t).length := by
  have := congrArg List.length h
  simpa using this
theorem GD.hd {t u : TS} (g : GD t) (h : (tD u).map Dhd = (tD t).map Dhd) : GD u := by
  intro j hj
  rw [hd_len h] at hj
  exact (g j hj).hd (tx_hd h j).symm
theorem GD.fr {S : List (Nat × Nat)} {t u : TS} (g : GD t) (f : Fr S t u) : GD u := g.hd f.2.2.2.2
/-! the law that counts -/
def lwF (t : TS) (b : Nat) (q : Nat) : Option Nat := if 0 ≤ tA t (b + 10) q ∧ tA t (b + 10) q ≤ tI t b 11 - 1 then tT t (b + 9) (tA t (b + 10) q).toNat else none
def exF (t : TS) (o : Option Nat) (d f0 f1 f2 : Int) : Int := match o with
  | none => d
  | some r => evX (tx t ((r - 92) / 4)) f0 f1 f2
theorem exF_hd {t u : TS} (h : (tD u).map Dhd = (tD t).map Dhd) (o : Option Nat) (d f0 f1 f2 : Int) : exF u o d f0 f1 f2 = exF t o d f0 f1 f2 := by
  cases o with
  | none => rfl
  | some r => exact evX_hd (tx_hd h _) _ _ _
theorem exF_j (t : TS) (j : Nat) (d f0 f1 f2 : Int) : exF t (some (92 + 4 * j)) d f0 f1 f2 = evX (tx t j) f0 f1 f2 := by
  show evX (tx t ((92 + 4 * j - 92) / 4)) f0 f1 f2 = _
  rw [show (92 + 4 * j - 92) / 4 = j by omega]
def pdF (t : TS) (o : Option Nat) (k s r h : Int) : Int := dkF k (max 0 (min 99 (exF t o (15 * s) s r h)))
theorem pdF_hd {t u : TS} (e : (tD u).map Dhd = (tD t).map Dhd) (o : Option Nat) (k s r h : Int) : pdF u o k s r h = pdF t o k s r h := by
  unfold pdF
  rw [exF_hd e]
/-- how dark a stone of a table is, on a side (0 left, 1 right), in a row -/
def dkC (t : TS) (b s r u : Nat) : Int := pdF t (lwF t b 0) (tA t (b + 1) s) (if u = 0 then tA t (b + 2) s else tA t (b + 3) s) r (hvF (tA t (b + 1) s) (tA t (b + 2) s) (tA t (b + 3) s))
def DK (t : TS) (b : Nat) (n : Int) : Prop := ∀ s r u : Nat, (s : Int) < n → r < 4 → u < 2 → tA t (b + 8) ((s * 4 + r) * 2 + u) = dkC t b s r u
theorem lwF_mv {t u : TS} {b : Nat} (h10 : ∀ i, tA u (b + 10) i = tA t (b + 10) i) (h11 : tI u b 11 = tI t b 11) (h9 : ∀ i, tT u (b + 9) i = tT t (b + 9) i) (q : Nat) : lwF u b q = lwF t b q := by
  unfold lwF
  rw [h10, h11, h9]
theorem dkC_mv {t u : TS} {b : Nat} (h10 : ∀ i, tA u (b + 10) i = tA t (b + 10) i) (h11 : tI u b 11 = tI t b 11) (h9 : ∀ i, tT u (b + 9) i = tT t (b + 9) i) (hd : (tD u).map Dhd = (tD t).map Dhd) {s : Nat} (h1 : tA u (b + 1) s = tA t (b + 1) s) (h2 : tA u (b + 2) s = tA t (b + 2) s) (h3 : tA u (b + 3) s = tA t (b + 3) s) (r v : Nat) : dkC u b s r v = dkC t b s r v := by
  unfold dkC
  rw [lwF_mv h10 h11 h9, h1, h2, h3, pdF_hd hd]
/-! ===== lists of code: what a reader's output is ===== -/
def dpL : List Int → Int
  | [] => 0
  | x :: O => if 0 ≤ x then dpL O + 1 else if x = -10 then dpL O else dpL O - 1
def wfL : List Int → Prop
  | [] => True
  | x :: O => wfL O ∧ (x < 0 → 1 ≤ dpL O) ∧ (x < 0 → ¬ x = -10 → 2 ≤ dpL O)
def cpL : List Int → Int
  | [] => 0
  | x :: O => cpL O + (if 0 ≤ x then 1 else 0)
def nbL : List Int → Int
  | [] => 0
  | a :: S => nbL S + (if -9 ≤ a then 1 else 0)
def ngL (S : List Int) : Prop := ∀ a ∈ S, -11 ≤ a ∧ a < 0
theorem nbL_nn : ∀ S, 0 ≤ nbL S
  | [] => Int.le_refl 0
  | a :: S => by
    have := nbL_nn S
    unfold nbL
    split <;> omega
theorem ngL.tl {a : Int} {S : List Int} (h : ngL (a :: S)) : ngL S := fun x hx => h x (List.mem_cons_of_mem _ hx)
theorem ngL.tail {S : List Int} (h : ngL S) : ngL S.tail := fun x hx => h x (List.mem_of_mem_tail hx)
def LI (S O : List Int) (a w : Int) : Prop := wfL O ∧ dpL O = nbL S + (1 - w) ∧ ngL S ∧ cpL O = a ∧ (w = 0 ∨ w = 1) ∧ (w = 0 → 1 ≤ a)
theorem LI.st {b a : Int} : ∀ {S O : List Int}, LI S O a 0 → LI (stF b S O).1 (stF b S O).2 a 0
  | [], O, h => h
  | x :: S, O, h => by
    unfold stF
    split
    · rename_i c
      refine LI.st ?_
      obtain ⟨h1, h2, h3, h4, h5, h6⟩ := h
      have r := h3 x List.mem_cons_self
      have n0 := nbL_nn S
      unfold nbL at h2
      refine ⟨?_, ?_, h3.tl, ?_, h5, h6⟩
      · refine ⟨h1, fun _ => ?_, fun _ q => ?_⟩
        · split at h2 <;> omega
        · rw [if_pos (by omega)] at h2; omega
      · unfold dpL
        rw [if_neg (by omega)]
        by_cases q : x = -10
        · rw [if_pos q]
          rw [if_neg (by omega)] at h2
          omega
        · rw [if_neg q]
          rw [if_pos (by omega)] at h2
          omega
      · unfold cpL
        rw [if_neg (by omega)]
        omega
    · exact h
theorem nm_b (q x : Int) : -1 ≤ nmF q x ∧ nmF q x ≤ 2 ∧ (q = 1 → nmF q x ≤ 1) := by
  unfold nmF
  (repeat' split) <;> omega
theorem LI.opd {S O : List Int} {a v : Int} (h : LI S O a 1) (hv : 0 ≤ v) : LI S (v :: O) (a + 1) 0 := by
  obtain ⟨h1, h2, h3, h4, h5, h6⟩ := h
  have n0 := nbL_nn S
  have c0 : ∀ O, 0 ≤ cpL O := by
    intro O
    induction O with
    | nil => exact Int.le_refl 0
    | cons x O ih => unfold cpL; split <;> omega
  refine ⟨⟨h1, fun q => by omega, fun q => by omega⟩, ?_, h3, ?_, Or.inl rfl, fun _ => ?_⟩
  · unfold dpL
    rw [if_pos hv]
    omega
  · unfold cpL
    rw [if_pos hv]
    omega
  · have := c0 O
    omega
theorem LI.psh {S O : List Int} {a x : Int} (h : LI S O a 1) (hx : x = -10 ∨ x = -11) : LI (x :: S) O a 1 := by
  obtain ⟨h1, h2, h3, h4, h5, h6⟩ := h
  refine ⟨h1, ?_, fun y hy => ?_, h4, h5, h6⟩
  · unfold nbL
    rw [if_neg (by omega)]
    omega
  · rcases List.mem_cons.mp hy with e | e
    · omega
    · exact h3 y e
theorem LI.bin {S O : List Int} {a x : Int} (h : LI S O a 0) (hx : -9 ≤ x ∧ x < 0) : LI (x :: S) O a 1 := by
  obtain ⟨h1, h2, h3, h4, h5, h6⟩ := h
  refine ⟨h1, ?_, fun y hy => ?_, h4, Or.inr rfl, fun q => absurd q (by decide)⟩
  · unfold nbL
    rw [if_pos (by omega)]
    omega
  · rcases List.mem_cons.mp hy with e | e
    · omega
    · exact h3 y e
