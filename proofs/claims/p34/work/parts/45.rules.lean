/-! ===== running the engine by rules ===== -/
/-- a proposition that no tactic looks into -/
def lock (n : Nat) (p : Prop) : Prop := if n = 0 then p else lock (n - 1) p
termination_by n
decreasing_by omega
theorem lock_eq (p : Prop) : lock 0 p = p := by
  rw [lock]
  exact if_pos rfl
def Rb (B : List ab_K) (N : Nat) (k : ab_K) (lv : ab_L) (st : List Value) (w : ab_W) (r : Option Value × ab_W) : Prop := lock 0 (match k lv st w with
  | none => False
  | some (.inr q) => q = r
  | some (.inl (b, lv', st', w')) => ab_run B N b lv' st' w' = some r)
section RB
variable {B : List ab_K} {N : Nat} {k : ab_K} {lv : ab_L} {st : List Value} {w w' : ab_W} {r : Option Value × ab_W} {b tg i a t : Nat} {x y : Int32} {xs : List Int32}
theorem rn_step (hb : B[b]? = some k) (h : Rb B N k lv st w r) : ab_run B (N + 1) b lv st w = some r := by
  unfold ab_run
  rw [hb]
  dsimp only
  unfold Rb at h
  rw [lock_eq] at h
  revert h
  cases k lv st w with
  | none => intro h; exact h.elim
  | some q =>
    match q with
    | .inl (b', lv', st', w'') => intro h; exact h
    | .inr q => intro h; exact congrArg some h
theorem rb_push {v : Value} (h : Rb B N k lv (v :: st) w r) : Rb B N (o_push v k) lv st w r := h
theorem rb_iload (hv : lv[i]? = some (some (.int x))) (h : Rb B N k lv (.int x :: st) w r) : Rb B N (o_iload i k) lv st w r := by
  simp only [Rb, o_iload, hv]; exact h
theorem rb_aload (hv : lv[i]? = some (some (.ref a))) (h : Rb B N k lv (.ref a :: st) w r) : Rb B N (o_aload i k) lv st w r := by
  simp only [Rb, o_aload, hv]; exact h
theorem rb_aloadN (hv : lv[i]? = some (some .null)) (h : Rb B N k lv (.null :: st) w r) : Rb B N (o_aload i k) lv st w r := by
  simp only [Rb, o_aload, hv]; exact h
theorem rb_istore {lv' : ab_L} (hl : ab_st1 lv i (.int x) = lv') (h : Rb B N k lv' st w r) : Rb B N (o_istore i k) lv (.int x :: st) w r := by subst hl; exact h
theorem rb_astore {lv' : ab_L} (hl : ab_st1 lv i (.ref a) = lv') (h : Rb B N k lv' st w r) : Rb B N (o_astore i k) lv (.ref a :: st) w r := by subst hl; exact h
theorem rb_astoreN {lv' : ab_L} (hl : ab_st1 lv i .null = lv') (h : Rb B N k lv' st w r) : Rb B N (o_astore i k) lv (.null :: st) w r := by subst hl; exact h
theorem rb_iinc {n : Int32} {lv' : ab_L} (hv : lv[i]? = some (some (.int x))) (hl : ab_st1 lv i (.int (x + n)) = lv') (h : Rb B N k lv' st w r) : Rb B N (o_iinc i n k) lv st w r := by
  subst hl; simp only [Rb, o_iinc, hv]; exact h
theorem rb_div0 {f : Int32 → Int32 → Int32} (hy : ¬ y = 0) (h : Rb B N k lv (.int (f x y) :: st) w r) : Rb B N (o_div f k) lv (.int y :: .int x :: st) w r := by
  simp only [Rb, o_div, hy, if_false]; exact h
theorem rb_dupR (h : Rb B N k lv (.ref a :: .ref a :: st) w r) : Rb B N (o_dup k) lv (.ref a :: st) w r := h
theorem rb_dup2 (h : Rb B N k lv (.int x :: .ref a :: .int x :: .ref a :: st) w r) : Rb B N (o_dup2 k) lv (.int x :: .ref a :: st) w r := h
theorem rb_popI (h : Rb B N k lv st w r) : Rb B N (o_pop k) lv (.int x :: st) w r := h
theorem rb_goto (h : ab_run B N tg lv st w = some r) : Rb B N (o_goto tg) lv st w r := by unfold Rb; rw [lock_eq]; exact h
theorem rb_sw {f : Int32 → Nat} (h : ab_run B N (f x) lv st w = some r) : Rb B N (o_sw f) lv (.int x :: st) w r := by unfold Rb; rw [lock_eq]; exact h
theorem rb_ifnullN (h : ab_run B N tg lv st w = some r) : Rb B N (o_ifnull tg k) lv (.null :: st) w r := by unfold Rb; rw [lock_eq]; exact h
theorem rb_ifnullR (h : Rb B N k lv st w r) : Rb B N (o_ifnull tg k) lv (.ref a :: st) w r := h
theorem rb_ifnonnullR (h : ab_run B N tg lv st w = some r) : Rb B N (o_ifnonnull tg k) lv (.ref a :: st) w r := by unfold Rb; rw [lock_eq]; exact h
theorem rb_ifnonnullN (h : Rb B N k lv st w r) : Rb B N (o_ifnonnull tg k) lv (.null :: st) w r := h
theorem rb_ret {rt : Option FieldType} {v : Value} (hok : ab_ok rt (some v) = true) (hr : (some v, w) = r) : Rb B N (o_ret rt) lv [v] w r := by
  simp only [Rb, o_ret, hok, if_true, lock_eq]; exact hr
theorem rb_retv (hr : (none, w) = r) : Rb B N (o_ret none) lv [] w r := by unfold Rb; rw [lock_eq]; exact hr
theorem rb_getf {ci fi : Nat} {v : Value} (hv : ab_gf w a ci fi = some v) (h : Rb B N k lv (v :: st) w r) : Rb B N (o_getf ci fi k) lv (.ref a :: st) w r := by
  simp only [Rb, o_getf, hv]; exact h
theorem rb_putI {ci fi : Nat} (hv : ab_pf w a ci fi (.int x) = some w') (h : Rb B N k lv st w' r) : Rb B N (o_putI ci fi k) lv (.int x :: .ref a :: st) w r := by
  simp only [Rb, o_putI, hv]; exact h
theorem rb_putZ {ci fi : Nat} (hx : x = 0 ∨ x = 1) (hv : ab_pf w a ci fi (.int x) = some w') (h : Rb B N k lv st w' r) : Rb B N (o_putZ ci fi k) lv (.int x :: .ref a :: st) w r := by
  simp only [Rb, o_putZ, hx, hv, if_true]; exact h
theorem rb_putA {ci fi c : Nat} (hv : ab_pf w a ci fi (.ref c) = some w') (h : Rb B N k lv st w' r) : Rb B N (o_putA ci fi k) lv (.ref c :: .ref a :: st) w r := by
  simp only [Rb, o_putA, hv]; exact h
theorem rb_iald {j : Int32} (ha : ab_ia w a t = some xs) (hj : ¬ j < 0) (hx : xs[j.toNatClampNeg]? = some x) (h : Rb B N k lv (.int x :: st) w r) : Rb B N (o_iald t k) lv (.int j :: .ref a :: st) w r := by
  simp only [Rb, o_iald, ha, hj, if_false, hx]; exact h
theorem rb_iast {j : Int32} {f : Int32 → Int32} (ha : ab_ia w a t = some xs) (hj : ¬ j < 0) (hl : j.toNatClampNeg < xs.length) (hw : w.set a (.inr (.inl (t, xs.set j.toNatClampNeg (f x)))) = w') (h : Rb B N k lv st w' r) : Rb B N (o_iast t f k) lv (.int x :: .int j :: .ref a :: st) w r := by
  subst hw; simp only [Rb, o_iast, ha, hj, if_false, hl, if_true]; exact h
theorem rb_aaldR {j : Int32} {rs : List (Option Nat)} {c : Nat} (ha : ab_ra w a t = some rs) (hj : ¬ j < 0) (hx : rs[j.toNatClampNeg]? = some (some c)) (h : Rb B N k lv (.ref c :: st) w r) : Rb B N (o_aald t k) lv (.int j :: .ref a :: st) w r := by
  simp only [Rb, o_aald, ha, hj, if_false, hx, ab_rv]; exact h
theorem rb_aaldN {j : Int32} {rs : List (Option Nat)} (ha : ab_ra w a t = some rs) (hj : ¬ j < 0) (hx : rs[j.toNatClampNeg]? = some none) (h : Rb B N k lv (.null :: st) w r) : Rb B N (o_aald t k) lv (.int j :: .ref a :: st) w r := by
  simp only [Rb, o_aald, ha, hj, if_false, hx, ab_rv]; exact h
theorem rb_aastR {j : Int32} {rs : List (Option Nat)} {c ci : Nat} {fs : List Value} (ha : ab_ra w a t = some rs) (hj : ¬ j < 0) (hc : w[c]? = some (.inl (ci, fs))) (hl : j.toNatClampNeg < rs.length) (hw : w.set a (.inr (.inr (t, rs.set j.toNatClampNeg (some c)))) = w') (h : Rb B N k lv st w' r) : Rb B N (o_aast t ci k) lv (.ref c :: .int j :: .ref a :: st) w r := by
  subst hw; simp only [Rb, o_aast, ha, hj, if_false, hc, hl, and_self, if_true]; exact h
theorem rb_aastN {j : Int32} {rs : List (Option Nat)} {ci : Nat} (ha : ab_ra w a t = some rs) (hj : ¬ j < 0) (hl : j.toNatClampNeg < rs.length) (hw : w.set a (.inr (.inr (t, rs.set j.toNatClampNeg none))) = w') (h : Rb B N k lv st w' r) : Rb B N (o_aast t ci k) lv (.null :: .int j :: .ref a :: st) w r := by
  subst hw; simp only [Rb, o_aast, ha, hj, if_false, hl, if_true]; exact h
theorem rb_alen (ha : ab_ia w a t = some xs) (h : Rb B N k lv (.int (Int32.ofNat xs.length) :: st) w r) : Rb B N (o_alenI t k) lv (.ref a :: st) w r := by
  simp only [Rb, o_alenI, ha]; exact h
theorem rb_xald {j : Nat} {q : Int32} (hq : ¬ q < 0) (hx : xs[q.toNatClampNeg]? = some x) (h : Rb B N k lv (.int x :: st) w r) : Rb B N (o_xald j xs k) lv (.int q :: .ref (1000000 + j) :: st) w r := by
  simp only [Rb, o_xald, true_and, not_false_eq_true, hq, if_true, hx]; exact h
theorem rb_xlen {j : Nat} (h : Rb B N k lv (.int (Int32.ofNat xs.length) :: st) w r) : Rb B N (o_xlen j xs k) lv (.ref (1000000 + j) :: st) w r := by
  simp only [Rb, o_xlen, if_true]; exact h
theorem rb_new {ci : Nat} {fs : List Value} (hw : w.length < 1000000) (h : Rb B N k lv (.ref w.length :: st) (w ++ [.inl (ci, fs)]) r) : Rb B N (o_new ci fs k) lv st w r := by
  simp only [Rb, o_new, hw, if_true]; exact h
theorem rb_newi (hx : ¬ x < 0) (hw : w.length < 1000000) (hn : x.toNatClampNeg ≤ 100000) (h : Rb B N k lv (.ref w.length :: st) (w ++ [.inr (.inl (t, List.replicate x.toNatClampNeg 0))]) r) : Rb B N (o_newi t k) lv (.int x :: st) w r := by
  simp only [Rb, o_newi, hx, hw, hn, and_self, if_true, if_false]; exact h
theorem rb_oinit (hc : ab_cl st = true) (h : Rb B N k lv st w r) : Rb B N (o_oinit k) lv (.ref a :: st) w r := by
  simp only [Rb, o_oinit, hc, if_true]; exact h
theorem rb_acopy {n dp sp : Int32} {c : Nat} {ys : List Int32} (ha : ab_ia w a 0 = some xs) (hc : ab_ia w c 0 = some ys) (h1 : ¬ sp < 0) (h2 : ¬ dp < 0) (h3 : ¬ n < 0) (h4 : sp.toNatClampNeg + n.toNatClampNeg ≤ xs.length) (h5 : dp.toNatClampNeg + n.toNatClampNeg ≤ ys.length) (hcl : ab_cl st = true) (hw : w.set c (.inr (.inl (0, ab_cp xs ys sp.toNatClampNeg dp.toNatClampNeg n.toNatClampNeg))) = w') (h : Rb B N k lv st w' r) : Rb B N (o_acopy k) lv (.int n :: .int dp :: .ref c :: .int sp :: .ref a :: st) w r := by
  subst hw; simp only [Rb, o_acopy, ha, hc, h1, h2, h3, or_self, if_false, h4, h5, hcl, and_self, if_true]; exact h
theorem rb_ceq (h1 : x = y → ab_run B N tg lv st w = some r) (h2 : ¬ (x = y) → Rb B N k lv st w r) : Rb B N (o_cmp (fun x y => decide (x = y)) tg k) lv (.int y :: .int x :: st) w r := by
  unfold Rb o_cmp
  by_cases hq : x = y
  · simp only [decide_eq_true hq, if_true, lock_eq]; exact h1 hq
  · simp only [decide_eq_false hq, if_false, Bool.false_eq_true]; exact h2 hq
theorem rb_cne (h1 : ¬ x = y → ab_run B N tg lv st w = some r) (h2 : ¬ (¬ x = y) → Rb B N k lv st w r) : Rb B N (o_cmp (fun x y => decide (¬ x = y)) tg k) lv (.int y :: .int x :: st) w r := by
  unfold Rb o_cmp
  by_cases hq : ¬ x = y
  · simp only [decide_eq_true hq, if_true, lock_eq]; exact h1 hq
  · simp only [decide_eq_false hq, if_false, Bool.false_eq_true]; exact h2 hq
theorem rb_clt (h1 : x < y → ab_run B N tg lv st w = some r) (h2 : ¬ (x < y) → Rb B N k lv st w r) : Rb B N (o_cmp (fun x y => decide (x < y)) tg k) lv (.int y :: .int x :: st) w r := by
  unfold Rb o_cmp
  by_cases hq : x < y
  · simp only [decide_eq_true hq, if_true, lock_eq]; exact h1 hq
  · simp only [decide_eq_false hq, if_false, Bool.false_eq_true]; exact h2 hq
theorem rb_cge (h1 : y ≤ x → ab_run B N tg lv st w = some r) (h2 : ¬ (y ≤ x) → Rb B N k lv st w r) : Rb B N (o_cmp (fun x y => decide (y ≤ x)) tg k) lv (.int y :: .int x :: st) w r := by
  unfold Rb o_cmp
  by_cases hq : y ≤ x
  · simp only [decide_eq_true hq, if_true, lock_eq]; exact h1 hq
  · simp only [decide_eq_false hq, if_false, Bool.false_eq_true]; exact h2 hq
theorem rb_cgt (h1 : y < x → ab_run B N tg lv st w = some r) (h2 : ¬ (y < x) → Rb B N k lv st w r) : Rb B N (o_cmp (fun x y => decide (y < x)) tg k) lv (.int y :: .int x :: st) w r := by
  unfold Rb o_cmp
  by_cases hq : y < x
  · simp only [decide_eq_true hq, if_true, lock_eq]; exact h1 hq
  · simp only [decide_eq_false hq, if_false, Bool.false_eq_true]; exact h2 hq
theorem rb_cle (h1 : x ≤ y → ab_run B N tg lv st w = some r) (h2 : ¬ (x ≤ y) → Rb B N k lv st w r) : Rb B N (o_cmp (fun x y => decide (x ≤ y)) tg k) lv (.int y :: .int x :: st) w r := by
  unfold Rb o_cmp
  by_cases hq : x ≤ y
  · simp only [decide_eq_true hq, if_true, lock_eq]; exact h1 hq
  · simp only [decide_eq_false hq, if_false, Bool.false_eq_true]; exact h2 hq
theorem rb_ieq (h1 : x = 0 → ab_run B N tg lv st w = some r) (h2 : ¬ (x = 0) → Rb B N k lv st w r) : Rb B N (o_if (fun x => decide (x = 0)) tg k) lv (.int x :: st) w r := by
  unfold Rb o_if
  by_cases hq : x = 0
  · simp only [decide_eq_true hq, if_true, lock_eq]; exact h1 hq
  · simp only [decide_eq_false hq, if_false, Bool.false_eq_true]; exact h2 hq
theorem rb_ine (h1 : ¬ x = 0 → ab_run B N tg lv st w = some r) (h2 : ¬ (¬ x = 0) → Rb B N k lv st w r) : Rb B N (o_if (fun x => decide (¬ x = 0)) tg k) lv (.int x :: st) w r := by
  unfold Rb o_if
  by_cases hq : ¬ x = 0
  · simp only [decide_eq_true hq, if_true, lock_eq]; exact h1 hq
  · simp only [decide_eq_false hq, if_false, Bool.false_eq_true]; exact h2 hq
theorem rb_ilt (h1 : x < 0 → ab_run B N tg lv st w = some r) (h2 : ¬ (x < 0) → Rb B N k lv st w r) : Rb B N (o_if (fun x => decide (x < 0)) tg k) lv (.int x :: st) w r := by
  unfold Rb o_if
  by_cases hq : x < 0
  · simp only [decide_eq_true hq, if_true, lock_eq]; exact h1 hq
  · simp only [decide_eq_false hq, if_false, Bool.false_eq_true]; exact h2 hq
theorem rb_ige (h1 : 0 ≤ x → ab_run B N tg lv st w = some r) (h2 : ¬ (0 ≤ x) → Rb B N k lv st w r) : Rb B N (o_if (fun x => decide (0 ≤ x)) tg k) lv (.int x :: st) w r := by
  unfold Rb o_if
  by_cases hq : 0 ≤ x
  · simp only [decide_eq_true hq, if_true, lock_eq]; exact h1 hq
  · simp only [decide_eq_false hq, if_false, Bool.false_eq_true]; exact h2 hq
theorem rb_ile (h1 : x ≤ 0 → ab_run B N tg lv st w = some r) (h2 : ¬ (x ≤ 0) → Rb B N k lv st w r) : Rb B N (o_if (fun x => decide (x ≤ 0)) tg k) lv (.int x :: st) w r := by
  unfold Rb o_if
  by_cases hq : x ≤ 0
  · simp only [decide_eq_true hq, if_true, lock_eq]; exact h1 hq
  · simp only [decide_eq_false hq, if_false, Bool.false_eq_true]; exact h2 hq
theorem rb_callV0 {cal : ab_F} {ci : Nat} {fs : List Value} {v : Value} (hb : w[b]? = some (.inl (ci, fs))) (hcl : ab_cl st = true) (hc : cal i [.ref b] w = some (some v, w')) (h : Rb B N k lv (v :: st) w' r) : Rb B N (o_callV cal i 0 ci k) lv (.ref b :: st) w r := by
  have e : (List.take 0 (.ref b :: st)).reverse = [] := rfl
  have e1 : List.drop 0 (.ref b :: st) = .ref b :: st := rfl
  unfold Rb o_callV
  rw [e1, e]
  dsimp only
  rw [hb]
  dsimp only
  rw [if_pos ⟨rfl, hcl⟩, hc]
  exact h
theorem rb_callV0v {cal : ab_F} {ci : Nat} {fs : List Value}  (hb : w[b]? = some (.inl (ci, fs))) (hcl : ab_cl st = true) (hc : cal i [.ref b] w = some (none, w')) (h : Rb B N k lv st w' r) : Rb B N (o_callV cal i 0 ci k) lv (.ref b :: st) w r := by
  have e : (List.take 0 (.ref b :: st)).reverse = [] := rfl
  have e1 : List.drop 0 (.ref b :: st) = .ref b :: st := rfl
  unfold Rb o_callV
  rw [e1, e]
  dsimp only
  rw [hb]
  dsimp only
  rw [if_pos ⟨rfl, hcl⟩, hc]
  exact h
theorem rb_callS1 {cal : ab_F} {v v1 : Value} (hcl : ab_cl st = true) (hc : cal i [v1] w = some (some v, w')) (h : Rb B N k lv (v :: st) w' r) : Rb B N (o_callS cal i 1 k) lv (v1 :: st) w r := by
  have e : (List.take 1 (v1 :: st)).reverse = [v1] := rfl
  have e2 : List.drop 1 (v1 :: st) = st := rfl
  unfold Rb o_callS
  rw [e, e2, if_pos ⟨by simp, hcl⟩, hc]
  exact h
theorem rb_callV1 {cal : ab_F} {ci : Nat} {fs : List Value} {v v1 : Value} (hb : w[b]? = some (.inl (ci, fs))) (hcl : ab_cl st = true) (hc : cal i [.ref b, v1] w = some (some v, w')) (h : Rb B N k lv (v :: st) w' r) : Rb B N (o_callV cal i 1 ci k) lv (v1 :: .ref b :: st) w r := by
  have e : (List.take 1 (v1 :: .ref b :: st)).reverse = [v1] := rfl
  have e1 : List.drop 1 (v1 :: .ref b :: st) = .ref b :: st := rfl
  unfold Rb o_callV
  rw [e1, e]
  dsimp only
  rw [hb]
  dsimp only
  rw [if_pos ⟨rfl, hcl⟩, hc]
  exact h
theorem rb_callV1v {cal : ab_F} {ci : Nat} {fs : List Value} {v1 : Value} (hb : w[b]? = some (.inl (ci, fs))) (hcl : ab_cl st = true) (hc : cal i [.ref b, v1] w = some (none, w')) (h : Rb B N k lv st w' r) : Rb B N (o_callV cal i 1 ci k) lv (v1 :: .ref b :: st) w r := by
  have e : (List.take 1 (v1 :: .ref b :: st)).reverse = [v1] := rfl
  have e1 : List.drop 1 (v1 :: .ref b :: st) = .ref b :: st := rfl
  unfold Rb o_callV
  rw [e1, e]
  dsimp only
  rw [hb]
  dsimp only
  rw [if_pos ⟨rfl, hcl⟩, hc]
  exact h
theorem rb_callS2 {cal : ab_F} {v v1 v2 : Value} (hcl : ab_cl st = true) (hc : cal i [v1, v2] w = some (some v, w')) (h : Rb B N k lv (v :: st) w' r) : Rb B N (o_callS cal i 2 k) lv (v2 :: v1 :: st) w r := by
  have e : (List.take 2 (v2 :: v1 :: st)).reverse = [v1, v2] := rfl
  have e2 : List.drop 2 (v2 :: v1 :: st) = st := rfl
  unfold Rb o_callS
  rw [e, e2, if_pos ⟨by simp, hcl⟩, hc]
  exact h
theorem rb_callS2v {cal : ab_F} {v1 v2 : Value} (hcl : ab_cl st = true) (hc : cal i [v1, v2] w = some (none, w')) (h : Rb B N k lv st w' r) : Rb B N (o_callS cal i 2 k) lv (v2 :: v1 :: st) w r := by
  have e : (List.take 2 (v2 :: v1 :: st)).reverse = [v1, v2] := rfl
  have e2 : List.drop 2 (v2 :: v1 :: st) = st := rfl
  unfold Rb o_callS
  rw [e, e2, if_pos ⟨by simp, hcl⟩, hc]
  exact h
theorem rb_callV2 {cal : ab_F} {ci : Nat} {fs : List Value} {v v1 v2 : Value} (hb : w[b]? = some (.inl (ci, fs))) (hcl : ab_cl st = true) (hc : cal i [.ref b, v1, v2] w = some (some v, w')) (h : Rb B N k lv (v :: st) w' r) : Rb B N (o_callV cal i 2 ci k) lv (v2 :: v1 :: .ref b :: st) w r := by
  have e : (List.take 2 (v2 :: v1 :: .ref b :: st)).reverse = [v1, v2] := rfl
  have e1 : List.drop 2 (v2 :: v1 :: .ref b :: st) = .ref b :: st := rfl
  unfold Rb o_callV
  rw [e1, e]
  dsimp only
  rw [hb]
  dsimp only
  rw [if_pos ⟨rfl, hcl⟩, hc]
  exact h
theorem rb_callV2v {cal : ab_F} {ci : Nat} {fs : List Value} {v1 v2 : Value} (hb : w[b]? = some (.inl (ci, fs))) (hcl : ab_cl st = true) (hc : cal i [.ref b, v1, v2] w = some (none, w')) (h : Rb B N k lv st w' r) : Rb B N (o_callV cal i 2 ci k) lv (v2 :: v1 :: .ref b :: st) w r := by
  have e : (List.take 2 (v2 :: v1 :: .ref b :: st)).reverse = [v1, v2] := rfl
  have e1 : List.drop 2 (v2 :: v1 :: .ref b :: st) = .ref b :: st := rfl
  unfold Rb o_callV
  rw [e1, e]
  dsimp only
  rw [hb]
  dsimp only
  rw [if_pos ⟨rfl, hcl⟩, hc]
  exact h
theorem rb_callS3 {cal : ab_F} {v v1 v2 v3 : Value} (hcl : ab_cl st = true) (hc : cal i [v1, v2, v3] w = some (some v, w')) (h : Rb B N k lv (v :: st) w' r) : Rb B N (o_callS cal i 3 k) lv (v3 :: v2 :: v1 :: st) w r := by
  have e : (List.take 3 (v3 :: v2 :: v1 :: st)).reverse = [v1, v2, v3] := rfl
  have e2 : List.drop 3 (v3 :: v2 :: v1 :: st) = st := rfl
  unfold Rb o_callS
  rw [e, e2, if_pos ⟨by simp, hcl⟩, hc]
  exact h
theorem rb_callV3 {cal : ab_F} {ci : Nat} {fs : List Value} {v v1 v2 v3 : Value} (hb : w[b]? = some (.inl (ci, fs))) (hcl : ab_cl st = true) (hc : cal i [.ref b, v1, v2, v3] w = some (some v, w')) (h : Rb B N k lv (v :: st) w' r) : Rb B N (o_callV cal i 3 ci k) lv (v3 :: v2 :: v1 :: .ref b :: st) w r := by
  have e : (List.take 3 (v3 :: v2 :: v1 :: .ref b :: st)).reverse = [v1, v2, v3] := rfl
  have e1 : List.drop 3 (v3 :: v2 :: v1 :: .ref b :: st) = .ref b :: st := rfl
  unfold Rb o_callV
  rw [e1, e]
  dsimp only
  rw [hb]
  dsimp only
  rw [if_pos ⟨rfl, hcl⟩, hc]
  exact h
theorem rb_callV3v {cal : ab_F} {ci : Nat} {fs : List Value} {v1 v2 v3 : Value} (hb : w[b]? = some (.inl (ci, fs))) (hcl : ab_cl st = true) (hc : cal i [.ref b, v1, v2, v3] w = some (none, w')) (h : Rb B N k lv st w' r) : Rb B N (o_callV cal i 3 ci k) lv (v3 :: v2 :: v1 :: .ref b :: st) w r := by
  have e : (List.take 3 (v3 :: v2 :: v1 :: .ref b :: st)).reverse = [v1, v2, v3] := rfl
  have e1 : List.drop 3 (v3 :: v2 :: v1 :: .ref b :: st) = .ref b :: st := rfl
  unfold Rb o_callV
  rw [e1, e]
  dsimp only
  rw [hb]
  dsimp only
  rw [if_pos ⟨rfl, hcl⟩, hc]
  exact h
theorem rb_callS4 {cal : ab_F} {v v1 v2 v3 v4 : Value} (hcl : ab_cl st = true) (hc : cal i [v1, v2, v3, v4] w = some (some v, w')) (h : Rb B N k lv (v :: st) w' r) : Rb B N (o_callS cal i 4 k) lv (v4 :: v3 :: v2 :: v1 :: st) w r := by
  have e : (List.take 4 (v4 :: v3 :: v2 :: v1 :: st)).reverse = [v1, v2, v3, v4] := rfl
  have e2 : List.drop 4 (v4 :: v3 :: v2 :: v1 :: st) = st := rfl
  unfold Rb o_callS
  rw [e, e2, if_pos ⟨by simp, hcl⟩, hc]
  exact h
theorem rb_callV4 {cal : ab_F} {ci : Nat} {fs : List Value} {v v1 v2 v3 v4 : Value} (hb : w[b]? = some (.inl (ci, fs))) (hcl : ab_cl st = true) (hc : cal i [.ref b, v1, v2, v3, v4] w = some (some v, w')) (h : Rb B N k lv (v :: st) w' r) : Rb B N (o_callV cal i 4 ci k) lv (v4 :: v3 :: v2 :: v1 :: .ref b :: st) w r := by
  have e : (List.take 4 (v4 :: v3 :: v2 :: v1 :: .ref b :: st)).reverse = [v1, v2, v3, v4] := rfl
  have e1 : List.drop 4 (v4 :: v3 :: v2 :: v1 :: .ref b :: st) = .ref b :: st := rfl
  unfold Rb o_callV
  rw [e1, e]
  dsimp only
  rw [hb]
  dsimp only
  rw [if_pos ⟨rfl, hcl⟩, hc]
  exact h
theorem rb_callI4v {cal : ab_F} {v1 v2 v3 v4 : Value} (hcl : ab_cl st = true) (hc : cal i [.ref b, v1, v2, v3, v4] w = some (none, w')) (h : Rb B N k lv st w' r) : Rb B N (o_callI cal i 4 k) lv (v4 :: v3 :: v2 :: v1 :: .ref b :: st) w r := by
  have e : (List.take 4 (v4 :: v3 :: v2 :: v1 :: .ref b :: st)).reverse = [v1, v2, v3, v4] := rfl
  have e1 : List.drop 4 (v4 :: v3 :: v2 :: v1 :: .ref b :: st) = .ref b :: st := rfl
  unfold Rb o_callI
  rw [e1, e]
  dsimp only
  rw [if_pos hcl, hc]
  exact h
theorem rb_callS5 {cal : ab_F} {v v1 v2 v3 v4 v5 : Value} (hcl : ab_cl st = true) (hc : cal i [v1, v2, v3, v4, v5] w = some (some v, w')) (h : Rb B N k lv (v :: st) w' r) : Rb B N (o_callS cal i 5 k) lv (v5 :: v4 :: v3 :: v2 :: v1 :: st) w r := by
  have e : (List.take 5 (v5 :: v4 :: v3 :: v2 :: v1 :: st)).reverse = [v1, v2, v3, v4, v5] := rfl
  have e2 : List.drop 5 (v5 :: v4 :: v3 :: v2 :: v1 :: st) = st := rfl
  unfold Rb o_callS
  rw [e, e2, if_pos ⟨by simp, hcl⟩, hc]
  exact h
theorem rb_callV5 {cal : ab_F} {ci : Nat} {fs : List Value} {v v1 v2 v3 v4 v5 : Value} (hb : w[b]? = some (.inl (ci, fs))) (hcl : ab_cl st = true) (hc : cal i [.ref b, v1, v2, v3, v4, v5] w = some (some v, w')) (h : Rb B N k lv (v :: st) w' r) : Rb B N (o_callV cal i 5 ci k) lv (v5 :: v4 :: v3 :: v2 :: v1 :: .ref b :: st) w r := by
  have e : (List.take 5 (v5 :: v4 :: v3 :: v2 :: v1 :: .ref b :: st)).reverse = [v1, v2, v3, v4, v5] := rfl
  have e1 : List.drop 5 (v5 :: v4 :: v3 :: v2 :: v1 :: .ref b :: st) = .ref b :: st := rfl
  unfold Rb o_callV
  rw [e1, e]
  dsimp only
  rw [hb]
  dsimp only
  rw [if_pos ⟨rfl, hcl⟩, hc]
  exact h
theorem rb_binL {f : Int32 → Int32 → Int32} {z : Int32} (hz : f x y = z) (h : Rb B N k lv (.int z :: st) w r) : Rb B N (o_bin f k) lv (.int y :: .int x :: st) w r := by subst hz; exact h
theorem rb_divL {f : Int32 → Int32 → Int32} {z : Int32} (hy : ¬ y = 0) (hz : f x y = z) (h : Rb B N k lv (.int z :: st) w r) : Rb B N (o_div f k) lv (.int y :: .int x :: st) w r := by subst hz; exact rb_div0 hy h
theorem rb_m2L {f : Int32 → Int32 → Int32} {z : Int32} (hc : ab_cl st = true) (hz : f x y = z) (h : Rb B N k lv (.int z :: st) w r) : Rb B N (o_m2 f k) lv (.int y :: .int x :: st) w r := by
  subst hz; simp only [Rb, o_m2, hc, if_true]; exact h
theorem rb_unL {f : Int32 → Int32} {z : Int32} (hz : f x = z) (h : Rb B N k lv (.int z :: st) w r) : Rb B N (o_un f k) lv (.int x :: st) w r := by subst hz; exact h
theorem rb_m1L {f : Int32 → Int32} {z : Int32} (hc : ab_cl st = true) (hz : f x = z) (h : Rb B N k lv (.int z :: st) w r) : Rb B N (o_m1 f k) lv (.int x :: st) w r := by
  subst hz; simp only [Rb, o_m1, hc, if_true]; exact h
theorem rb_swL {f : Int32 → Nat} {n : Nat} (hf : f x = n) (h : ab_run B N n lv st w = some r) : Rb B N (o_sw f) lv (.int x :: st) w r := by subst hf; exact rb_sw h
theorem rb_alenL {z : Int32} (ha : ab_ia w a t = some xs) (hz : Int32.ofNat xs.length = z) (h : Rb B N k lv (.int z :: st) w r) : Rb B N (o_alenI t k) lv (.ref a :: st) w r := by subst hz; exact rb_alen ha h
end RB
