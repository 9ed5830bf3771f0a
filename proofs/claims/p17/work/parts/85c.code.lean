/-! ===== what a reader gives out is sound ===== -/
theorem stF0_hd : ∀ (S O : List Int), (stF 0 S O).1 = [] ∨ ∃ R, (stF 0 S O).1 = -11 :: R
  | [], O => Or.inl rfl
  | x :: S, O => by
    unfold stF
    by_cases c : ¬ x = -11 ∧ 0 ≤ rkF x
    · rw [if_pos c]
      exact stF0_hd S (x :: O)
    · rw [if_neg c]
      have : 0 ≤ rkF x := by
        unfold rkF
        (repeat' split) <;> decide
      have e : x = -11 := by omega
      exact Or.inr ⟨S, by rw [e]⟩
theorem LI.cl {S O : List Int} {a : Int} (h : LI S O a 0) : LI (stF 0 S O).1.tail (stF 0 S O).2 a 0 := by
  have k := LI.st (b := 0) h
  rcases stF0_hd S O with e | ⟨R, e⟩
  · rw [e] at k ⊢; exact k
  · rw [e] at k ⊢
    obtain ⟨h1, h2, h3, h4, h5, h6⟩ := k
    unfold nbL at h2
    rw [if_neg (by decide)] at h2
    exact ⟨h1, by show dpL _ = nbL R + _; omega, h3.tl, h4, h5, h6⟩
theorem ruF_all {g : Nat → Int} {n s : Int} : ∀ (k : Nat) (p i : Int), p ≤ i → i < ruF g n s k p → soF g n i = s
  | 0, p, i, h1, h2 => by
    have e : ruF g n s 0 p = p := rfl
    omega
  | k + 1, p, i, h1, h2 => by
    unfold ruF at h2
    split at h2
    · rename_i c
      by_cases e : i = p
      · subst e; exact c.2
      · exact ruF_all k (p + 1) i (by omega) h2
    · omega
def CN (g : Nat → Int) (c : PCu) : Prop := 0 ≤ c.1 ∧ (c.2.1 = 2 → ∀ i : Int, c.1 ≤ i → i < c.2.2.1 → 48 ≤ g i.toNat ∧ g i.toNat ≤ 57)
theorem CN.st {g : Nat → Int} {n : Int} {c : PCu} (h : 0 ≤ c.2.2.1 ∧ c.2.2.1 ≤ n) : CN g (stC g n c) := by
  have a := skF_b (g := g) (n := n) 97 c.2.2.1 h.2
  refine ⟨by show 0 ≤ skF g n 97 c.2.2.1; omega, fun e i h1 h2 => ?_⟩
  have e' : soF g n (skF g n 97 c.2.2.1) = 2 := e
  have h1' : skF g n 97 c.2.2.1 ≤ i := h1
  have h2' : i < spF g n (skF g n 97 c.2.2.1) := h2
  unfold spF at h2'
  rw [e', if_neg (by decide), if_neg (by decide)] at h2'
  have q : soF g n i = 2 := by
    by_cases k : i = skF g n 97 c.2.2.1
    · rw [k]; exact e'
    · exact ruF_all 97 _ i (by omega) h2'
  have := so2_iff.mpr q
  omega
theorem numF_r {g : Nat → Int} {a : Nat} : ∀ (j : Nat), (∀ i, i < j → 48 ≤ g (a + i) ∧ g (a + i) ≤ 57) → 0 ≤ numF g a j ∧ (j ≤ 1 → numF g a j ≤ 9) ∧ (j ≤ 2 → numF g a j ≤ 99) ∧ (j ≤ 3 → numF g a j ≤ 999) ∧ (j ≤ 4 → numF g a j ≤ 9999)
  | 0, _ => by
    have e : numF g a 0 = 0 := rfl
    omega
  | j + 1, h => by
    have ih := numF_r j (fun i hi => h i (by omega))
    have d := h j (by omega)
    have e : numF g a (j + 1) = 10 * numF g a j + g (a + j) - 48 := rfl
    have z : j = 0 → numF g a j = 0 := fun q => by subst q; rfl
    refine ⟨by omega, fun q => ?_, fun q => ?_, fun q => ?_, fun q => ?_⟩
    · have := z (by omega); omega
    · have := ih.2.1 (by omega); omega
    · have := ih.2.2.1 (by omega); omega
    · have := ih.2.2.2.1 (by omega); omega
theorem CN.num {g : Nat → Int} {n : Int} {c : PCu} (h : CN g c) (w : WC n c) (h2 : c.2.1 = 2) (h4 : c.2.2.1 - c.1 ≤ 4) : 0 ≤ numF g c.1.toNat (c.2.2.1 - c.1).toNat ∧ numF g c.1.toNat (c.2.2.1 - c.1).toNat ≤ 9999 := by
  have w2 := w.2.1
  have h0 := h.1
  have r := numF_r (g := g) (a := c.1.toNat) (c.2.2.1 - c.1).toNat (fun i hi => by
    have := h.2 h2 (c.1 + i) (by omega) (by omega)
    rw [show (c.1 + (i : Int)).toNat = c.1.toNat + i by omega] at this
    exact this)
  exact ⟨r.1, r.2.2.2.2 (by omega)⟩
/-! the stack of signs -/
theorem syr_LI {g : Nat → Int} {n q : Int} : ∀ (k : Nat) (c : PCu) (S O : List Int) (a w p kk : Int) (T : Nat → Int) (r : PRs), LI S O a w → WC n c → CN g c → syr g n q k (c, S, O, a, w, p, kk, T) = some r → r.1 = -1 → wfL r.2.1 ∧ cpL r.2.1 = r.2.2 ∧ 1 ≤ r.2.2
  | 0, _, _, _, _, _, _, _, _, _, _, _, _, h, _ => by cases h
  | k + 1, c, S, O, a, w, p, kk, T, r, li, wc, cn, h, h1 => by
    have wn := WC.nx (g := g) wc
    have cn2 : CN g (stC g n c) := CN.st ⟨by have := wc.1; have := wc.2.1; omega, wc.2.2.1⟩
    have hw := li.2.2.2.2.1
    have h' : (match sy1 g n q c S O a w p kk T with
      | .inl s' => syr g n q k s'
      | .inr r => some r) = some r := h
    unfold sy1 at h'
    by_cases c1 : w = 0 ∧ tkF c = 0
    · rw [if_pos c1] at h'
      have e : (if p = 0 then ((-1, (stF 0 S O).2, a) : PRs) else (c.1, [], 0)) = r := by simpa using h'
      by_cases c2 : p = 0
      · rw [if_pos c2] at e
        subst e
        have li0 : LI S O a 0 := by rw [← c1.1]; exact li
        have l2 := LI.st (b := 0) li0
        exact ⟨l2.1, l2.2.2.2.1, l2.2.2.2.2.2 rfl⟩
      · rw [if_neg c2] at e
        subst e
        exact absurd h1 (by have := wc.1; show ¬ c.1 = -1; omega)
    · rw [if_neg c1] at h'
      by_cases c2 : ¬ w = 0
      · have lw : LI S O a 1 := by rw [show (1 : Int) = w by omega]; exact li
        rw [if_pos c2] at h'
        by_cases c3 : siF g n c = 33 ∧ kk < 8
        · rw [if_pos c3] at h'
          exact syr_LI k _ _ _ _ _ _ _ _ r (lw.psh (Or.inl rfl)) wn.1 cn2 h' h1
        · rw [if_neg c3] at h'
          by_cases c4 : siF g n c = 40 ∧ p < 8
          · rw [if_pos c4] at h'
            exact syr_LI k _ _ _ _ _ _ _ _ r (lw.psh (Or.inr rfl)) wn.1 cn2 h' h1
          · rw [if_neg c4] at h'
            by_cases c5 : tkF c = 2 ∨ (tkF c = 1 ∧ c.2.2.1 - c.1 = 1 ∧ 0 ≤ nmF q (g c.1.toNat))
            · rw [if_pos c5] at h'
              have hv : 0 ≤ opV g q c := by
                unfold opV
                by_cases t2 : tkF c = 2
                · rw [if_pos t2]
                  have u : c.2.1 = 2 ∧ c.2.2.1 - c.1 ≤ 4 := by
                    unfold tkF at t2
                    (repeat' split at t2) <;> omega
                  exact (cn.num wc u.1 u.2).1
                · rw [if_neg t2]
                  have := nm_b q (g c.1.toNat)
                  omega
              exact syr_LI k _ _ _ _ _ _ _ _ r (LI.st (lw.opd hv)) wn.1 cn2 h' h1
            · rw [if_neg c5] at h'
              have e : ((c.1, [], 0) : PRs) = r := by simpa using h'
              subst e
              exact absurd h1 (by have := wc.1; show ¬ c.1 = -1; omega)
      · have lw : LI S O a 0 := by rw [show (0 : Int) = w by omega]; exact li
        rw [if_neg c2] at h'
        by_cases c3 : siF g n c = 41 ∧ 0 < p
        · rw [if_pos c3] at h'
          exact syr_LI k _ _ _ _ _ _ _ _ r (LI.st lw.cl) wn.1 cn2 h' h1
        · rw [if_neg c3] at h'
          by_cases c4 : sgF (siF g n c) = 0 ∨ (rkF (sgF (siF g n c)) = 3 ∧ ¬ T p.toNat = 0)
          · rw [if_pos c4] at h'
            have e : ((c.1, [], 0) : PRs) = r := by simpa using h'
            subst e
            exact absurd h1 (by have := wc.1; show ¬ c.1 = -1; omega)
          · rw [if_neg c4] at h'
            have b := sg_b (siF g n c)
            exact syr_LI k _ _ _ _ _ _ _ _ r ((LI.st lw).bin ⟨b.1, by omega⟩) wn.1 cn2 h' h1
/-! the descent -/
def PVx (g : Nat → Int) (n q : Int) (x : PPs) : Prop := (∀ p ∈ x.2.1, vsP q p.1 p.2) ∧ WC n x.1 ∧ CN g x.1
theorem PVx.em {g : Nat → Int} {n q s v : Int} {x : PPs} (h : PVx g n q x) (hv : vsP q s v) : PVx g n q (emP s v x) := by
  refine ⟨fun p hp => ?_, h.2⟩
  rcases List.mem_cons.mp hp with e | e
  · rw [e]; exact hv
  · exact h.1 p e
theorem PVx.stp {g : Nat → Int} {n q : Int} {x : PPs} (h : PVx g n q x) : PVx g n q (stP g n x) := ⟨h.1, (WC.nx h.2.1).1, CN.st ⟨by have := h.2.1.1; have := h.2.1.2.1; omega, h.2.1.2.2.1⟩⟩
theorem PVx.ft {g : Nat → Int} {n q : Int} {x : PPs} (h : PVx g n q x) : PVx g n q (ftP x) := h
theorem PVx.cl {g : Nat → Int} {n q : Int} {x : PPs} (h : PVx g n q x) : PVx g n q (clP g n x) := by
  unfold clP
  split
  · exact h
  · split
    · exact h.stp
    · exact h.ft
theorem PVx.op {g : Nat → Int} {n q : Int} {x : PPs} (h : PVx g n q x) : PVx g n q (opP g n q x) := by
  have k := h.stp
  unfold opP
  split
  · exact h.ft
  · split
    · rename_i c
      have r := h.2.2.num h.2.1 c.1 c.2
      refine ⟨fun p hp => ?_, k.2⟩
      rcases List.mem_cons.mp hp with e | e
      · rw [e]; exact Or.inl ⟨rfl, r.1, by show numF _ _ _ < 10000; omega⟩
      · exact h.1 p e
    · split
      · rename_i c
        have r := nm_b q (g x.1.1.toNat)
        refine ⟨fun p hp => ?_, k.2⟩
        rcases List.mem_cons.mp hp with e | e
        · rw [e]
          have c3 := c.2.2
          exact Or.inr (Or.inl ⟨rfl, by show 0 ≤ nmF q _; omega, r.2.1, r.2.2⟩)
        · exact h.1 p e
      · exact h.ft
theorem PVx.lp {g : Nat → Int} {n q l : Int} {f : PPs → PPs} (hl : 0 ≤ l) (hf : ∀ x, PVx g n q x → PVx g n q (f x)) : ∀ (i : Nat) (x : PPs), PVx g n q x → PVx g n q (LPx g n f l i x)
  | 0, x, h => h
  | i + 1, x, h => by
    unfold LPx
    split
    · rename_i c
      exact PVx.lp hl hf i _ (PVx.em (hf _ h.stp) (Or.inr (Or.inr (Or.inr (lv_s c.2 hl).1))))
    · exact h
theorem RD_PV {g : Nat → Int} {n q : Int} : ∀ (M : Nat) (l o k : Int) (x : PPs), 0 ≤ l → PVx g n q x → PVx g n q (RD g n q M l o k x)
  | 0, _, _, _, _, _, h => h
  | M + 1, l, o, k, x, hl, h => by
    unfold RD
    split
    · split
      · exact PVx.em (RD_PV M 5 o (k + 1) _ (by decide) h.stp) (Or.inr (Or.inr (Or.inl rfl)))
      · split
        · exact PVx.cl (RD_PV M 0 (o + 1) k _ (by decide) h.stp)
        · exact h.op
    · exact PVx.lp hl (fun y hy => RD_PV M (l + 1) o k y (by omega) hy) _ _ (RD_PV M (l + 1) o k x (by omega) h)
theorem ls1_lsP (f g : Nat → Int) : ∀ n : Nat, (lsP f g n).map trF = ls1 (fun i => trF (f i, g i)) n
  | 0 => rfl
  | n + 1 => by
    show trF (f n, g n) :: (lsP f g n).map trF = _
    rw [ls1_lsP f g n]
    rfl
theorem lsP_mem (f g : Nat → Int) : ∀ (n i : Nat), i < n → (f i, g i) ∈ lsP f g n
  | 0, _, h => by omega
  | n + 1, i, h => by
    by_cases e : i = n
    · subst e; exact List.mem_cons_self
    · exact List.mem_cons_of_mem _ (lsP_mem f g n i (by omega))
theorem dpL_ls (X : Nat → Int) : ∀ n : Nat, dpL (ls1 X n) = depF X n
  | 0 => rfl
  | n + 1 => by
    show (if 0 ≤ X n then dpL (ls1 X n) + 1 else _) = _
    rw [dpL_ls X n]
    rfl
theorem cpL_ls (X : Nat → Int) : ∀ n : Nat, cpL (ls1 X n) = cpF X n
  | 0 => rfl
  | n + 1 => by
    show cpL (ls1 X n) + _ = _
    rw [cpL_ls X n]
    rfl
theorem wfL_ls {X : Nat → Int} : ∀ {n : Nat}, wfL (ls1 X n) → wfC X n
  | 0, _ => fun j hj => by omega
  | n + 1, h => by
    have h' : wfL (ls1 X n) ∧ (X n < 0 → 1 ≤ dpL (ls1 X n)) ∧ (X n < 0 → ¬ X n = -10 → 2 ≤ dpL (ls1 X n)) := h
    rw [dpL_ls] at h'
    exact wfC_push (wfL_ls h'.1) h'.2
theorem ls1_inj {f g : Nat → Int} : ∀ {n m : Nat}, ls1 f n = ls1 g m → n = m ∧ ∀ i, i < n → f i = g i
  | 0, 0, _ => ⟨rfl, fun i hi => by omega⟩
  | 0, m + 1, h => by cases h
  | n + 1, 0, h => by cases h
  | n + 1, m + 1, h => by
    have h' : f n :: ls1 f n = g m :: ls1 g m := h
    injection h' with h1 h2
    obtain ⟨e, k⟩ := ls1_inj h2
    subst e
    refine ⟨rfl, fun i hi => ?_⟩
    by_cases q : i = n
    · subst q; exact h1
    · exact k i (by omega)
theorem row_tk {f : Nat → Int} {n i : Nat} (hn : n ≤ 96) (hi : i < n) (hr : -2147483648 ≤ f i ∧ f i ≤ 2147483647) : (((row 96 f).take n).getD i 0).toInt = f i := by
  rw [List.getD_eq_getElem?_getD, List.getElem?_take, if_pos hi, row_get (by omega)]
  show (jI (f i)).toInt = f i
  exact nrm_id hr
/-- a text read to its end is sound -/
theorem rd_gv {g : Nat → Int} {n q : Int} (hn : n ≤ 96) {c : PCu} (w : WC n c) (cn : CN g c) {f e : Nat → Int} {m : Nat} {st : List Int32} {a : Int} (hm : m ≤ 95) (h1 : (RD g n q 80 0 0 0 (c, [], 0, -1)).2.2.2 = -1) (h2 : (RD g n q 80 0 0 0 (c, [], 0, -1)).1.2.1 = 0) (h3 : (RD g n q 80 0 0 0 (c, [], 0, -1)).2.1 = lsP f e m) (h4 : (RD g n q 80 0 0 0 (c, [], 0, -1)).2.2.1 = a) (h5 : (st.length : Int) = a) (r1 : ∀ i, -2147483648 ≤ f i ∧ f i ≤ 2147483647) (r2 : ∀ i, -2147483648 ≤ e i ∧ e i ≤ 2147483647) : GVx (q, a, (row 96 f).take m, (row 96 e).take m, st) ∧ ∀ i, i < m → xcF (q, a, (row 96 f).take m, (row 96 e).take m, st) i = trF (f i, e i) := by
  have l1 : ((row 96 f).take m).length = m := by rw [List.length_take, row_len]; omega
  have l2 : ((row 96 e).take m).length = m := by rw [List.length_take, row_len]; omega
  have xs : ∀ i, i < m → xsF (q, a, (row 96 f).take m, (row 96 e).take m, st) i = f i := fun i hi => row_tk (by omega) hi (r1 i)
  have xv : ∀ i, i < m → xvF (q, a, (row 96 f).take m, (row 96 e).take m, st) i = e i := fun i hi => row_tk (by omega) hi (r2 i)
  have xc : ∀ i, i < m → xcF (q, a, (row 96 f).take m, (row 96 e).take m, st) i = trF (f i, e i) := fun i hi => by
    unfold xcF
    rw [xs i hi, xv i hi]
  refine ⟨?_, xc⟩
  obtain ⟨k, hk⟩ := (rd_sy (g := g) (q := q) hn w (T := fun _ => 0) rfl (M := 80) (by decide)).1 h1 h2
  have li := syr_LI k c [] [] 0 1 0 0 (fun _ => 0) _ ⟨trivial, rfl, fun x hx => (by cases hx), rfl, Or.inr rfl, fun q => absurd q (by decide)⟩ w cn hk rfl
  have pv := RD_PV (g := g) (n := n) (q := q) 80 0 0 0 (c, [], 0, -1) (by decide) ⟨fun p hp => (by cases hp), w, cn⟩
  have li' : wfL ((lsP f e m).map trF) ∧ cpL ((lsP f e m).map trF) = a ∧ 1 ≤ a := by rw [← h3, ← h4]; exact li
  rw [ls1_lsP] at li'
  obtain ⟨w1, w2, w3⟩ := li'
  rw [cpL_ls] at w2
  have wf := wfL_ls w1
  have hm1 : 1 ≤ m := by
    by_cases z : m = 0
    · subst z
      have : cpF (fun i => trF (f i, e i)) 0 = 0 := rfl
      omega
    · omega
  refine ⟨by show ((row 96 e).take m).length = ((row 96 f).take m).length; rw [l1, l2], by show 1 ≤ ((row 96 f).take m).length; rw [l1]; exact hm1, fun i hi => ?_, ?_, ?_⟩
  · have hi' : i < m := by
      have : i < ((row 96 f).take m).length := hi
      omega
    rw [xs i hi', xv i hi']
    refine pv.1 (f i, e i) ?_
    rw [h3]
    exact lsP_mem f e m i hi'
  · show wfC _ ((row 96 f).take m).length
    rw [l1]
    exact wfC_congr (fun j hj => (xc j hj).symm) wf
  · show cpF _ ((row 96 f).take m).length ≤ (st.length : Int)
    rw [l1, h5]
    have cc : ∀ k, k ≤ m → cpF (xcF (q, a, (row 96 f).take m, (row 96 e).take m, st)) k = cpF (fun i => trF (f i, e i)) k := by
      intro k hk
      induction k with
      | zero => rfl
      | succ k ih =>
        unfold cpF
        rw [ih (by omega), xc k (by omega)]
    rw [cc m (Nat.le_refl _), w2]
    exact Int.le_refl _
