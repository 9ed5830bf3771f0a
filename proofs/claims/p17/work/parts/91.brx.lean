/-! ===== two stones changed ===== -/
def pcT (O : Nat → Nat → Nat → Int) (U H : Nat → Int) (p : Nat) : Int := if H p = -1 then 198 else O (H p).toNat p (U (H p).toNat).toNat
theorem picH_two {O : Nat → Nat → Nat → Int} {U H H' : Nat → Int} {a b : Nat} (hab : ¬ a = b) (h : ∀ q, ¬ q = a → ¬ q = b → H' q = H q) : ∀ m : Nat, picH O U H' m = picH O U H m + (if a < m then pcT O U H' a - pcT O U H a else 0) + (if b < m then pcT O U H' b - pcT O U H b else 0)
  | 0 => by
    rw [if_neg (by omega), if_neg (by omega)]
    rfl
  | m + 1 => by
    have ih := picH_two (O := O) (U := U) hab h m
    have e1 : picH O U H' (m + 1) = picH O U H' m + pcT O U H' m := rfl
    have e2 : picH O U H (m + 1) = picH O U H m + pcT O U H m := rfl
    rw [e1, e2, ih]
    by_cases ha : m = a
    · subst ha
      rw [if_neg (Nat.lt_irrefl _), if_pos (Nat.lt_succ_self _)]
      by_cases hb : b < m
      · rw [if_pos hb, if_pos (by omega)]; omega
      · rw [if_neg hb, if_neg (by omega)]; omega
    · by_cases hb : m = b
      · subst hb
        rw [if_neg (Nat.lt_irrefl m), if_pos (Nat.lt_succ_self _)]
        by_cases ha2 : a < m
        · rw [if_pos ha2, if_pos (by omega)]; omega
        · rw [if_neg ha2, if_neg (by omega)]; omega
      · have e3 : pcT O U H' m = pcT O U H m := by
          unfold pcT
          rw [h m ha hb]
        rw [e3]
        by_cases ha2 : a < m <;> by_cases hb2 : b < m
        · rw [if_pos ha2, if_pos hb2, if_pos (by omega), if_pos (by omega)]; omega
        · rw [if_pos ha2, if_neg hb2, if_pos (by omega), if_neg (by omega)]; omega
        · rw [if_neg ha2, if_pos hb2, if_neg (by omega), if_pos (by omega)]; omega
        · rw [if_neg ha2, if_neg hb2, if_neg (by omega), if_neg (by omega)]; omega
def swP (P : Nat → Int) (x y : Nat) : Nat → Int := upF (upF P x (P y)) y (P x)
theorem swP_y (P : Nat → Int) (x y : Nat) : swP P x y y = P x := by
  unfold swP upF
  rw [if_pos rfl]
theorem swP_x {P : Nat → Int} {x y : Nat} (h : ¬ x = y) : swP P x y x = P y := by
  unfold swP upF
  rw [if_neg h, if_pos rfl]
theorem swP_o {P : Nat → Int} {x y s : Nat} (hx : ¬ s = x) (hy : ¬ s = y) : swP P x y s = P s := by
  unfold swP upF
  rw [if_neg hy, if_neg hx]
theorem swP_inj {P : Nat → Int} {n x y : Nat} (hi : InjP P n) (hx : x < n) (hy : y < n) (hxy : ¬ x = y) : InjP (swP P x y) n := by
  intro s s' hs hs' e h12
  have i1 := hi s s' hs hs'
  have i2 := hi s x hs hx
  have i3 := hi s y hs hy
  have i4 := hi x s' hx hs'
  have i5 := hi y s' hy hs'
  have i6 := hi x y hx hy
  have i7 := hi y x hy hx
  by_cases a : s = y
  · subst a
    rw [swP_y] at e h12
    by_cases b : s' = s
    · exact b.symm
    · by_cases c : s' = x
      · subst c
        rw [swP_x hxy] at e
        exact (i6 e h12).symm
      · rw [swP_o c b] at e
        exact absurd (i4 e h12).symm c
  · by_cases a2 : s = x
    · subst a2
      rw [swP_x hxy] at e h12
      by_cases b : s' = y
      · subst b
        rw [swP_y] at e
        exact (i7 e h12).symm
      · by_cases c : s' = s
        · exact c.symm
        · rw [swP_o c b] at e
          exact absurd (i5 e h12).symm b
    · rw [swP_o a2 a] at e h12
      by_cases b : s' = y
      · subst b
        rw [swP_y] at e
        exact absurd (i2 e h12) a2
      · by_cases c : s' = x
        · subst c
          rw [swP_x hxy] at e
          exact absurd (i3 e h12) a
        · rw [swP_o c b] at e
          exact i1 e h12
theorem pic_sw {O : Nat → Nat → Nat → Int} {P U : Nat → Int} {n x y : Nat} (hi : InjP P n) (hx : x < n) (hy : y < n) (hxy : ¬ x = y) (h1 : 0 ≤ P x ∧ P x < 12) (h2 : 0 ≤ P y ∧ P y < 12) : picG n O (P, U) - picG n O (swP P x y, U) = (O x (P x).toNat (U x).toNat + O y (P y).toNat (U y).toNat) - (O x (P y).toNat (U x).toNat + O y (P x).toNat (U y).toNat) := by
  have hi2 := swP_inj hi hx hy hxy
  have hne : ¬ P x = P y := fun e => hxy (hi x y hx hy e h1.2)
  have hab : ¬ (P x).toNat = (P y).toNat := by omega
  have hq : ∀ q : Nat, ¬ q = (P x).toNat → ¬ q = (P y).toNat → HF (swP P x y) n q = HF P n q := by
    intro q q1 q2
    show hoF _ _ _ = hoF _ _ _
    refine hoF_cong2 (fun s hs => ?_)
    by_cases a : s = y
    · subst a
      rw [swP_y]
      constructor <;> intro e <;> (exfalso; omega)
    · by_cases b : s = x
      · subst b
        rw [swP_x hxy]
        constructor <;> intro e <;> (exfalso; omega)
      · rw [swP_o b a]
  have k := picH_two (O := O) (U := U) hab hq 12
  rw [if_pos (by omega), if_pos (by omega)] at k
  have a1 : HF P n (P x).toNat = x := hoF_is hi hx (by omega) (by omega)
  have a2 : HF P n (P y).toNat = y := hoF_is hi hy (by omega) (by omega)
  have a3 : HF (swP P x y) n (P x).toNat = y := hoF_is hi2 hy (by rw [swP_y]; omega) (by omega)
  have a4 : HF (swP P x y) n (P y).toNat = x := hoF_is hi2 hx (by rw [swP_x hxy]; omega) (by omega)
  have t1 : pcT O U (HF P n) (P x).toNat = O x (P x).toNat (U x).toNat := by
    unfold pcT
    rw [a1, if_neg (by omega)]
    rfl
  have t2 : pcT O U (HF P n) (P y).toNat = O y (P y).toNat (U y).toNat := by
    unfold pcT
    rw [a2, if_neg (by omega)]
    rfl
  have t3 : pcT O U (HF (swP P x y) n) (P x).toNat = O y (P x).toNat (U y).toNat := by
    unfold pcT
    rw [a3, if_neg (by omega)]
    rfl
  have t4 : pcT O U (HF (swP P x y) n) (P y).toNat = O x (P y).toNat (U x).toNat := by
    unfold pcT
    rw [a4, if_neg (by omega)]
    rfl
  rw [t1, t2, t3, t4] at k
  show picH O U (HF P n) 12 - picH O U (HF (swP P x y) n) 12 = _
  omega
theorem gn_eq {t u : TS} {b : Nat} (h : OX t u b 69) {x y : Nat} (hxy : x < y) (hy : y < (tI t b 10).toNat) : gnF (OC t b) (tA t (b + 4)) (tA t (b + 5)) x y = gsA u x y := by
  have hn := h.n
  have o := oc_eq h
  have hp := h.pin
  have cx := h.cp (s := x) (by omega)
  have cy := h.cp (s := y) hy
  have rx := hp.2 x (by omega)
  have ry := hp.2 y hy
  have ax : tA t (b + 4) x = AA u 69 x := cx.1
  have ay : tA t (b + 4) y = AA u 69 y := cy.1
  have bx : (CP t b).1 x = tA t (b + 4) x := rfl
  have by' : (CP t b).1 y = tA t (b + 4) y := rfl
  rw [bx] at rx
  rw [by'] at ry
  unfold gnF gsA
  by_cases q : tA t (b + 4) x < 12 ∧ tA t (b + 4) y < 12
  · rw [if_pos q, if_pos (by rw [← ax, ← ay]; omega), ← h.pc 0]
    have e : picG (tA u 69 1).toNat (OA u 69) (upF (upF (RPc u 69).1 x (AA u 69 y)) y (AA u 69 x), (RPc u 69).2) = picG (tI t b 10).toNat (OC t b) (swP (tA t (b + 4)) x y, tA t (b + 5)) := by
      rw [← hn]
      refine (picG_cg2 ?_ o ?_).symm
      · intro s hs
        have e := h.cp hs
        refine ⟨?_, e.2⟩
        show upF (upF (tA t (b + 4)) x (tA t (b + 4) y)) y (tA t (b + 4) x) s = upF (upF (RPc u 69).1 x (AA u 69 y)) y (AA u 69 x) s
        rw [ax, ay]
        unfold upF
        split
        · rfl
        · split
          · rfl
          · exact e.1
      · exact fun s hs => h.uin s hs
    rw [e]
    exact (pic_sw (U := tA t (b + 5)) hp.1 (by omega) hy (by omega) (by omega) (by omega)).symm
  · rw [if_neg q, if_neg (by rw [← ax, ← ay]; omega)]
theorem sw_eq {t u : TS} {b : Nat} (h : OX t u b 69) : swO (gnF (OC t b) (tA t (b + 4)) (tA t (b + 5))) (tI t b 10).toNat (tI t b 10).toNat = swO (gsA u) (tA u 69 1).toNat (tA u 69 1).toNat := by
  have hn := h.n
  rw [← hn]
  exact swO_cg (fun x y hxy hy => gn_eq h hxy hy) _ (Nat.le_refl _)
