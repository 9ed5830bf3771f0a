/-! ===== the reference: its row of numbers ===== -/
def depF (f : Nat → Int) : Nat → Int
  | 0 => 0
  | j + 1 => if 0 ≤ f j then depF f j + 1 else if f j = -10 then depF f j else depF f j - 1
def wfC (f : Nat → Int) (n : Nat) : Prop := ∀ j, j < n → (f j < 0 → 1 ≤ depF f j) ∧ (f j < 0 → ¬ f j = -10 → 2 ≤ depF f j)
def WF (t : TS) (c : Nat) : Prop := ∀ k : Nat, (k : Int) < tA t c 4 → tA t c (89 + 2 * k) % 1000 ≤ 96 ∧ wfC (fun j => tA t c (117 + 96 * k + j)) (tA t c (89 + 2 * k) % 1000).toNat
theorem depS (f : Nat → Int) {k : Int} (hk : 0 ≤ k) : (0 ≤ f k.toNat ∧ depF f (k + 1).toNat = depF f k.toNat + 1) ∨ (f k.toNat < 0 ∧ f k.toNat = -10 ∧ depF f (k + 1).toNat = depF f k.toNat) ∨ (f k.toNat < 0 ∧ ¬ f k.toNat = -10 ∧ depF f (k + 1).toNat = depF f k.toNat - 1) := by
  have e : depF f (k + 1).toNat = if 0 ≤ f k.toNat then depF f k.toNat + 1 else if f k.toNat = -10 then depF f k.toNat else depF f k.toNat - 1 := by
    rw [show (k + 1).toNat = k.toNat + 1 by omega]
    rfl
  rw [e]
  split
  · left; exact ⟨by assumption, rfl⟩
  · right
    split
    · left; exact ⟨by omega, by assumption, rfl⟩
    · right; exact ⟨by omega, by assumption, rfl⟩
theorem depF_congr {f g : Nat → Int} : ∀ {n : Nat}, (∀ j, j < n → f j = g j) → depF f n = depF g n
  | 0, _ => rfl
  | n + 1, h => by
    unfold depF
    rw [depF_congr (fun j hj => h j (by omega)), h n (by omega)]
theorem wfC_congr {f g : Nat → Int} {n : Nat} (h : ∀ j, j < n → f j = g j) (w : wfC f n) : wfC g n := by
  intro j hj
  have e : depF g j = depF f j := depF_congr (fun i hi => (h i (by omega)).symm)
  rw [e, ← h j hj]
  exact w j hj
theorem WF.cp {t u : TS} {c e : Nat} (ok : tA t c 4 ≤ 14) (h : WF t c) (q : ∀ i, (i = 4 ∨ (89 ≤ i ∧ i < 1461)) → tA u e i = tA t c i) : WF u e := by
  intro k hk
  rw [q 4 (Or.inl rfl)] at hk
  have hk14 : k < 14 := by omega
  rw [q (89 + 2 * k) (Or.inr ⟨by omega, by omega⟩)]
  obtain ⟨h1, h2⟩ := h k hk
  refine ⟨h1, wfC_congr (fun j hj => (q _ (Or.inr ⟨by omega, by omega⟩)).symm) h2⟩
theorem WF.same {t u : TS} (h : WF t 69) (q : ∀ i, (i = 4 ∨ 89 ≤ i) → tA u 69 i = tA t 69 i) : WF u 69 := by
  intro k hk
  rw [q 4 (Or.inl rfl)] at hk
  rw [q (89 + 2 * k) (Or.inr (by omega))]
  obtain ⟨h1, h2⟩ := h k hk
  exact ⟨h1, wfC_congr (fun j hj => (q _ (Or.inr (by omega))).symm) h2⟩
theorem WF.fr {t u : TS} {S : List (Nat × Nat)} (h : WF t 69) (f : Fr S t u) (hS : (69, 100) ∉ S) : WF u 69 := h.same (fun i _ => f.2.1 69 hS i)
theorem WF.uI {t u : TS} {c f : Nat} {z : Int} (h : WF t 69) (e : u = uI t c f z) : WF u 69 := h.same (fun i _ => by rw [e, tA_uI])
theorem WF.u69 {t u : TS} {i : Nat} {z : Int} (h : WF t 69) (e : u = uA t 69 i z) (hi : ¬ i = 4 ∧ i < 89) : WF u 69 := h.same (fun j hj => by rw [e, tA_uA, if_neg (by omega)])
theorem WF.uAo {t u : TS} {c i : Nat} {z : Int} (h : WF t 69) (e : u = uA t c i z) (hc : ¬ 69 = c) : WF u 69 := h.same (fun j _ => by rw [e, tA_uA, if_neg (fun q => hc q.1)])
/-- the days' changes: z, the day, where stones are and whether turned -/
def Dq (t u : TS) : Prop := ∀ i, ¬ i = 0 → ¬ i = 2 → (i < 29 ∨ 89 ≤ i ∨ (i - 29) % 5 < 3) → tA u 69 i = tA t 69 i
theorem Dq.rf (t : TS) : Dq t t := fun _ _ _ _ => rfl
theorem Dq.trans {t u v : TS} (h : Dq t u) (k : Dq u v) : Dq t v := fun i a b c => (k i a b c).trans (h i a b c)
theorem Dq.fr {t u v : TS} {S : List (Nat × Nat)} (h : Dq t u) (f : Fr S u v) (hS : (69, 100) ∉ S) : Dq t v := fun i a b c => (f.2.1 69 hS i).trans (h i a b c)
theorem Dq.uI {t u v : TS} {c f : Nat} {z : Int} (h : Dq t u) (e : v = uI u c f z) : Dq t v := fun i a b q => by rw [e, tA_uI]; exact h i a b q
theorem Dq.u69 {t u v : TS} {i : Nat} {z : Int} (h : Dq t u) (e : v = uA u 69 i z) (hi : i = 0 ∨ i = 2 ∨ (29 ≤ i ∧ i < 89 ∧ 3 ≤ (i - 29) % 5)) : Dq t v := fun j a b q => by rw [e, tA_uA, if_neg (by omega)]; exact h j a b q
theorem Dq.uAo {t u v : TS} {c i : Nat} {z : Int} (h : Dq t u) (e : v = uA u c i z) (hc : ¬ 69 = c) : Dq t v := fun j a b q => by rw [e, tA_uA, if_neg (fun q => hc q.1)]; exact h j a b q
theorem WF.dq {t u : TS} (h : WF t 69) (d : Dq t u) : WF u 69 := h.same (fun i hi => d i (by omega) (by omega) (by omega))
theorem of_r0 {t : TS} {s : Int} (ok : OK t) (hs : 0 ≤ s ∧ s ≤ 11) : 0 ≤ tA t 69 (29 + 5 * s + 0).toNat ∧ tA t 69 (29 + 5 * s + 0).toNat ≤ 5 := ok.a (ax_69 (nr_S0 (s := s.toNat) (by omega)))
theorem of_r1 {t : TS} {s : Int} (ok : OK t) (hs : 0 ≤ s ∧ s ≤ 11) : 0 ≤ tA t 69 (29 + 5 * s + 1).toNat ∧ tA t 69 (29 + 5 * s + 1).toNat ≤ 6 := ok.a (ax_69 (nr_S1 (s := s.toNat) (by omega)))
theorem of_r2 {t : TS} {s : Int} (ok : OK t) (hs : 0 ≤ s ∧ s ≤ 11) : 0 ≤ tA t 69 (29 + 5 * s + 2).toNat ∧ tA t 69 (29 + 5 * s + 2).toNat ≤ 6 := ok.a (ax_69 (nr_S2 (s := s.toNat) (by omega)))
theorem of_r3 {t : TS} {s : Int} (ok : OK t) (hs : 0 ≤ s ∧ s ≤ 11) : 0 ≤ tA t 69 (29 + 5 * s + 3).toNat ∧ tA t 69 (29 + 5 * s + 3).toNat ≤ 12 := ok.a (ax_69 (nr_S3 (s := s.toNat) (by omega)))
theorem of_r4 {t : TS} {s : Int} (ok : OK t) (hs : 0 ≤ s ∧ s ≤ 11) : 0 ≤ tA t 69 (29 + 5 * s + 4).toNat ∧ tA t 69 (29 + 5 * s + 4).toNat ≤ 1 := ok.a (ax_69 (nr_S4 (s := s.toNat) (by omega)))
def dl (o : Option Int64) : Option Value := match o with
  | none => none
  | some z => some (.long z)
section WLG
variable {B : List ab_K} {N : Nat} {k : ab_K} {lv lv' : ab_L} {st : List Value} {w : ab_W} {P : Option Value → ab_W → Prop} {i : Nat} {x : Int} {q r : Int64}
theorem w_lload (hv : lv[i]? = some (some (.long q))) (h : Rp B N k lv (.long q :: st) w P) : Rp B N (o_lload i k) lv st w P := Rp_map (fun _ hr => by simp only [Rb, o_lload, hv] at hr ⊢; exact hr) h
theorem w_lstore (hl : ab_st2 lv i (.long q) = lv') (h : Rp B N k lv' st w P) : Rp B N (o_lstore i k) lv (.long q :: st) w P := by subst hl; exact Rp_map (fun _ hr => hr) h
theorem w_lbin {f : Int64 → Int64 → Int64} (h : ∀ z, Rp B N k lv (.long z :: st) w P) : Rp B N (o_lbin f k) lv (.long r :: .long q :: st) w P := Rp_map (fun _ hr => hr) (h (f q r))
theorem w_lneg (h : ∀ z, Rp B N k lv (.long z :: st) w P) : Rp B N (o_lneg k) lv (.long q :: st) w P := Rp_map (fun _ hr => hr) (h (-q))
theorem w_i2l (h : ∀ z, Rp B N k lv (.long z :: st) w P) : Rp B N (o_i2l k) lv (.int (jI x) :: st) w P := Rp_map (fun _ hr => hr) (h (jI x).toInt64)
theorem w_l2i (h : ∀ z, -2147483648 ≤ z → z ≤ 2147483647 → Rp B N k lv (.int (jI z) :: st) w P) : Rp B N (o_l2i k) lv (.long q :: st) w P := by
  have h1 := Int32.le_toInt q.toInt32
  have h2 := Int32.toInt_lt q.toInt32
  have h3 := h q.toInt32.toInt (by omega) (by omega)
  rw [jI_self] at h3
  exact Rp_map (fun _ hr => hr) h3
theorem w_lcmp (h : ∀ z, -2147483648 ≤ z → z ≤ 2147483647 → Rp B N k lv (.int (jI z) :: st) w P) : Rp B N (o_lcmp k) lv (.long r :: .long q :: st) w P := by
  have h1 := Int32.le_toInt (lg_cmp q r)
  have h2 := Int32.toInt_lt (lg_cmp q r)
  have h3 := h (lg_cmp q r).toInt (by omega) (by omega)
  rw [jI_self] at h3
  exact Rp_map (fun _ hr => hr) h3
end WLG
theorem or_nat {a b : Nat} (ha : a < 2147483648) (hb : b < 2147483648) : fZ (fun x y => x ||| y) (a : Int) (b : Int) = ((a ||| b : Nat) : Int) := by
  have hab : a ||| b < 2147483648 := Nat.or_lt_two_pow (n := 31) ha hb
  have e : jI (a : Int) ||| jI (b : Int) = nI (a ||| b) := by
    rw [jI_nat, jI_nat]
    apply Int32.toBitVec_inj.mp
    apply BitVec.eq_of_toNat_eq
    rw [Int32.toBitVec_or, BitVec.toNat_or]
    show (Int32.ofNat a).toBitVec.toNat ||| (Int32.ofNat b).toBitVec.toNat = (Int32.ofNat (a ||| b)).toBitVec.toNat
    rw [Int32.toBitVec_ofNat', Int32.toBitVec_ofNat', Int32.toBitVec_ofNat', BitVec.toNat_ofNat, BitVec.toNat_ofNat, BitVec.toNat_ofNat, Nat.mod_eq_of_lt (by omega), Nat.mod_eq_of_lt (by omega), Nat.mod_eq_of_lt (by omega)]
  show (jI (a : Int) ||| jI (b : Int)).toInt = _
  rw [e, nIt_ hab]
theorem shl_pow : ∀ n : Nat, n < 13 → fZ (fun x y => x <<< (y &&& 31)) 1 (n : Int) = ((2 ^ n : Nat) : Int) := by decide +kernel
theorem or_lt {s p n z1 z2 e : Int} (hn : 0 ≤ n ∧ n ≤ 12) (hp : 0 ≤ p ∧ p < n) (he : e = fZ (fun x y => x <<< (y &&& 31)) 1 n) (hs : 0 ≤ s ∧ s < e) (h1 : z1 = fZ (fun x y => x <<< (y &&& 31)) 1 p) (h2 : z2 = fZ (fun x y => x ||| y) s z1) : 0 ≤ z2 ∧ z2 < e := by
  obtain ⟨N, rfl⟩ := Int.eq_ofNat_of_zero_le hn.1
  obtain ⟨M, rfl⟩ := Int.eq_ofNat_of_zero_le hp.1
  obtain ⟨A, rfl⟩ := Int.eq_ofNat_of_zero_le hs.1
  rw [shl_pow N (by omega)] at he
  rw [shl_pow M (by omega)] at h1
  have hN : 2 ^ N ≤ 2 ^ 12 := Nat.pow_le_pow_right (by decide) (by omega)
  have hM : 2 ^ M < 2 ^ N := Nat.pow_lt_pow_right (by decide) (by omega)
  subst he h1
  have hA : A < 2 ^ N := by omega
  rw [or_nat (by omega) (by omega)] at h2
  have := Nat.or_lt_two_pow hA hM
  omega
set_option maxRecDepth 100000 in
set_option maxHeartbeats 4000000 in
theorem c_X9_in {d : Nat} {t : TS} {v l h : Int}  (ok : OK t) (q0 : -2147483648 ≤ v) (q1 : v ≤ 2147483647) (q2 : -2147483648 ≤ l) (q3 : l ≤ 2147483647) (q4 : -2147483648 ≤ h) (q5 : h ≤ 2147483647) : CI (EX FU (d + 1)) 128 [.int (jI v), .int (jI l), .int (jI h)] (mk t) (fun z t' => t = t' ∧ ((z = 0 ∧ ¬ (l ≤ v ∧ v ≤ h)) ∨ (z = 1 ∧ (l ≤ v ∧ v ≤ h)))) := by
  refine CI_ent (d := d + 0) (Bk := bX9_in) (nL := 3) rfl rfl rfl (Nat.le_of_ble_eq_true rfl) ?_
  show Rn _ 1000000 0 [some (.int (jI v)), some (.int (jI l)), some (.int (jI h))] [] _ _
  refine w_step rfl ?_
  refine w_iload rfl ?_
  refine w_iload rfl ?_
  refine w_clt (by omega) (fun h1 => ?_) (fun h1 => ?_)
  · skip
    refine w_step rfl ?_
    refine w_push kc_0 ?_
    refine w_goto ?_
    refine w_step rfl ?_
    refine w_retI rfl ?_
    exact ⟨rfl, (by omega)⟩
  refine w_iload rfl ?_
  refine w_iload rfl ?_
  refine w_cgt (by omega) (fun h2 => ?_) (fun h2 => ?_)
  · skip
    refine w_step rfl ?_
    refine w_push kc_0 ?_
    refine w_goto ?_
    refine w_step rfl ?_
    refine w_retI rfl ?_
    exact ⟨rfl, (by omega)⟩
  refine w_push kc_1 ?_
  refine w_goto ?_
  refine w_step rfl ?_
  refine w_retI rfl ?_
  exact ⟨rfl, (by omega)⟩
set_option maxRecDepth 100000 in
set_option maxHeartbeats 4000000 in
theorem c_X9_within {d : Nat} {t : TS} {v l h : Int}  (ok : OK t) (q0 : -2147483648 ≤ v) (q1 : v ≤ 2147483647) (q2 : -2147483648 ≤ l) (q3 : l ≤ 2147483647) (q4 : -2147483648 ≤ h) (q5 : h ≤ 2147483647) (q6 : l ≤ h) : CI (EX FU (d + 1)) 129 [.int (jI v), .int (jI l), .int (jI h)] (mk t) (fun z t' => t = t' ∧ (z = max l (min h v))) := by
  refine CI_ent (d := d + 0) (Bk := bX9_within) (nL := 3) rfl rfl rfl (Nat.le_of_ble_eq_true rfl) ?_
  show Rn _ 1000000 0 [some (.int (jI v)), some (.int (jI l)), some (.int (jI h))] [] _ _
  refine w_step rfl ?_
  refine w_iload rfl ?_
  refine w_iload rfl ?_
  refine w_cge (by omega) (fun h1 => ?_) (fun h1 => ?_)
  · skip
    refine w_step rfl ?_
    refine w_iload rfl ?_
    refine w_iload rfl ?_
    refine w_cle (by omega) (fun h2 => ?_) (fun h2 => ?_)
    · skip
      refine w_step rfl ?_
      refine w_iload rfl ?_
      refine w_goto ?_
      refine w_step rfl ?_
      refine w_retI rfl ?_
      exact ⟨rfl, (by omega)⟩
    refine w_iload rfl ?_
    refine w_goto ?_
    refine w_step rfl ?_
    refine w_retI rfl ?_
    exact ⟨rfl, (by omega)⟩
  refine w_iload rfl ?_
  refine w_goto ?_
  refine w_step rfl ?_
  refine w_retI rfl ?_
  exact ⟨rfl, (by omega)⟩
set_option maxRecDepth 100000 in
set_option maxHeartbeats 4000000 in
theorem c_X9_apart {d : Nat} {t : TS} {x y : Int}  (ok : OK t) (q0 : -100000 ≤ x) (q1 : x ≤ 100000) (q2 : -100000 ≤ y) (q3 : y ≤ 100000) : CI (EX FU (d + 1)) 130 [.int (jI x), .int (jI y)] (mk t) (fun z t' => t = t' ∧ ((x < y ∧ z = y - x) ∨ (y ≤ x ∧ z = x - y))) := by
  refine CI_ent (d := d + 0) (Bk := bX9_apart) (nL := 2) rfl rfl rfl (Nat.le_of_ble_eq_true rfl) ?_
  show Rn _ 1000000 0 [some (.int (jI x)), some (.int (jI y))] [] _ _
  refine w_step rfl ?_
  refine w_iload rfl ?_
  refine w_iload rfl ?_
  refine w_cge (by omega) (fun h1 => ?_) (fun h1 => ?_)
  · skip
    refine w_step rfl ?_
    refine w_iload rfl ?_
    refine w_iload rfl ?_
    refine w_sub ?_
    refine w_goto ?_
    refine w_step rfl ?_
    refine w_retI rfl ?_
    exact ⟨rfl, (by omega)⟩
  refine w_iload rfl ?_
  refine w_iload rfl ?_
  refine w_sub ?_
  refine w_goto ?_
  refine w_step rfl ?_
  refine w_retI rfl ?_
  exact ⟨rfl, (by omega)⟩
set_option maxRecDepth 100000 in
set_option maxHeartbeats 4000000 in
theorem c_X9_copyAll_69_71 {d : Nat} {t : TS}  (ok : OK t) : CV (EX FU (d + 1)) 131 [.ref 69, .ref 71] (mk t) (fun t' => OK t' ∧ Fr [(71, 100)] t t' ∧ (∀ i : Nat, i < 1461 → tA t' 71 i = tA t 69 i)) := by
  refine CV_ent (d := d + 0) (Bk := bX9_copyAll) (nL := 3) rfl rfl rfl (Nat.le_of_ble_eq_true rfl) ?_
  show Rn _ 1000000 0 [some (.ref 69), some (.ref 71), none] [] _ _
  have fr : Fr [(71, 100)] t t := Fr.rf _ _
  refine w_step rfl ?_
  refine w_push kc_0 ?_
  refine w_istore (lv' := [some (.ref 69), some (.ref 71), some (.int (jI 0))]) rfl ?_
  refine w_goto ?_
  have key1 : ∀ (n1 M1 : Nat) (i : Int) (t1 : TS), OK t1 → Fr [(71, 100)] t t1 → (0 ≤ i) → (i ≤ 1461) → (∀ m : Nat, (m : Int) < i → tA t1 71 m = tA t 69 m) → 1461 - i < (n1 : Int) → 10 * n1 + (100) ≤ M1 → Rn (bX9_copyAll (EX FU (d + 0))) M1 1 [some (.ref 69), some (.ref 71), some (.int (jI i))] [] (mk t1) (PV (fun t' => OK t' ∧ Fr [(71, 100)] t t' ∧ (∀ i : Nat, i < 1461 → tA t' 71 i = tA t 69 i))) := by
    intro n1
    induction n1 with
    | zero => intro M1 i t1 ok1 fr1 i1_0 i1_1 i1_2 v1 f1; exfalso; omega
    | succ n1 ih1 =>
      intro M1 i t1 ok1 fr1 i1_0 i1_1 i1_2 v1 f1
      obtain ⟨M1, rfl⟩ : ∃ m, M1 = m + 10 := ⟨M1 - 10, by omega⟩
      have ea : ∀ m, tA t1 69 m = tA t 69 m := fun m => fr1.2.1 69 (by simp) m
      refine w_step rfl ?_
      refine w_iload rfl ?_
      refine w_push kc_1461 ?_
      refine w_cge (by omega) (fun h2 => ?_) (fun h2 => ?_)
      · skip
        refine w_step rfl ?_
        refine w_retV ?_
        exact ⟨ok1, fr1, (fun i hi => i1_2 i (by omega))⟩
      refine w_aload rfl ?_
      refine w_iload rfl ?_
      refine w_aload rfl ?_
      refine w_iload rfl ?_
      refine w_iald (i := (i).toNat) (ai_69 _) (by omega) (by omega) (ae_69 _) ok1 (fun z3 hz3 hl3 hh3 => ?_)
      have hj3 := nr_jr (i).toNat
      refine w_iast (i := (i).toNat) (ai_71 _) rfl (by omega) (by omega) (ae_71 _) ok1 (by omega) (fun t4 ht4 ok4 => ?_)
      have fr4 := fr1.uA ht4 (by simp)
      refine w_iinc (lv' := [some (.ref 69), some (.ref 71), some (.int (jI (i + 1)))]) kc_1 rfl rfl ?_
      refine w_goto ?_
      exact ih1 _ (i + 1) t4 ok4 fr4 (by omega) (by omega) (by intro m hm; rw [ht4, tA_uA]; split <;> first | exact i1_2 m (by omega) | (rename_i q; rw [q.2, hz3]; exact ea _)) (by omega) (by omega)
  exact key1 1462 _ 0 t ok fr (by omega) (by omega) (by intro m hm; omega) (by omega) (by omega)
set_option maxRecDepth 100000 in
set_option maxHeartbeats 4000000 in
theorem c_X9_copyAll_70_69 {d : Nat} {t : TS}  (ok : OK t) : CV (EX FU (d + 1)) 131 [.ref 70, .ref 69] (mk t) (fun t' => OK t' ∧ Fr [(69, 100)] t t' ∧ (∀ i : Nat, i < 1461 → tA t' 69 i = tA t 70 i)) := by
  refine CV_ent (d := d + 0) (Bk := bX9_copyAll) (nL := 3) rfl rfl rfl (Nat.le_of_ble_eq_true rfl) ?_
  show Rn _ 1000000 0 [some (.ref 70), some (.ref 69), none] [] _ _
  have fr : Fr [(69, 100)] t t := Fr.rf _ _
  refine w_step rfl ?_
  refine w_push kc_0 ?_
  refine w_istore (lv' := [some (.ref 70), some (.ref 69), some (.int (jI 0))]) rfl ?_
  refine w_goto ?_
  have key1 : ∀ (n1 M1 : Nat) (i : Int) (t1 : TS), OK t1 → Fr [(69, 100)] t t1 → (0 ≤ i) → (i ≤ 1461) → (∀ m : Nat, (m : Int) < i → tA t1 69 m = tA t 70 m) → 1461 - i < (n1 : Int) → 10 * n1 + (100) ≤ M1 → Rn (bX9_copyAll (EX FU (d + 0))) M1 1 [some (.ref 70), some (.ref 69), some (.int (jI i))] [] (mk t1) (PV (fun t' => OK t' ∧ Fr [(69, 100)] t t' ∧ (∀ i : Nat, i < 1461 → tA t' 69 i = tA t 70 i))) := by
    intro n1
    induction n1 with
    | zero => intro M1 i t1 ok1 fr1 i1_0 i1_1 i1_2 v1 f1; exfalso; omega
    | succ n1 ih1 =>
      intro M1 i t1 ok1 fr1 i1_0 i1_1 i1_2 v1 f1
      obtain ⟨M1, rfl⟩ : ∃ m, M1 = m + 10 := ⟨M1 - 10, by omega⟩
      have ea : ∀ m, tA t1 70 m = tA t 70 m := fun m => fr1.2.1 70 (by simp) m
      refine w_step rfl ?_
      refine w_iload rfl ?_
      refine w_push kc_1461 ?_
      refine w_cge (by omega) (fun h2 => ?_) (fun h2 => ?_)
      · skip
        refine w_step rfl ?_
        refine w_retV ?_
        exact ⟨ok1, fr1, (fun i hi => i1_2 i (by omega))⟩
      refine w_aload rfl ?_
      refine w_iload rfl ?_
      refine w_aload rfl ?_
      refine w_iload rfl ?_
      refine w_iald (i := (i).toNat) (ai_70 _) (by omega) (by omega) (ae_70 _) ok1 (fun z3 hz3 hl3 hh3 => ?_)
      have hj3 := nr_jr (i).toNat
      refine w_iast (i := (i).toNat) (ai_69 _) rfl (by omega) (by omega) (ae_69 _) ok1 (by omega) (fun t4 ht4 ok4 => ?_)
      have fr4 := fr1.uA ht4 (by simp)
      refine w_iinc (lv' := [some (.ref 70), some (.ref 69), some (.int (jI (i + 1)))]) kc_1 rfl rfl ?_
      refine w_goto ?_
      exact ih1 _ (i + 1) t4 ok4 fr4 (by omega) (by omega) (by intro m hm; rw [ht4, tA_uA]; split <;> first | exact i1_2 m (by omega) | (rename_i q; rw [q.2, hz3]; exact ea _)) (by omega) (by omega)
  exact key1 1462 _ 0 t ok fr (by omega) (by omega) (by intro m hm; omega) (by omega) (by omega)
set_option maxRecDepth 100000 in
set_option maxHeartbeats 4000000 in
theorem c_X9_copyAll_71_69 {d : Nat} {t : TS}  (ok : OK t) : CV (EX FU (d + 1)) 131 [.ref 71, .ref 69] (mk t) (fun t' => OK t' ∧ Fr [(69, 100)] t t' ∧ (∀ i : Nat, i < 1461 → tA t' 69 i = tA t 71 i)) := by
  refine CV_ent (d := d + 0) (Bk := bX9_copyAll) (nL := 3) rfl rfl rfl (Nat.le_of_ble_eq_true rfl) ?_
  show Rn _ 1000000 0 [some (.ref 71), some (.ref 69), none] [] _ _
  have fr : Fr [(69, 100)] t t := Fr.rf _ _
  refine w_step rfl ?_
  refine w_push kc_0 ?_
  refine w_istore (lv' := [some (.ref 71), some (.ref 69), some (.int (jI 0))]) rfl ?_
  refine w_goto ?_
  have key1 : ∀ (n1 M1 : Nat) (i : Int) (t1 : TS), OK t1 → Fr [(69, 100)] t t1 → (0 ≤ i) → (i ≤ 1461) → (∀ m : Nat, (m : Int) < i → tA t1 69 m = tA t 71 m) → 1461 - i < (n1 : Int) → 10 * n1 + (100) ≤ M1 → Rn (bX9_copyAll (EX FU (d + 0))) M1 1 [some (.ref 71), some (.ref 69), some (.int (jI i))] [] (mk t1) (PV (fun t' => OK t' ∧ Fr [(69, 100)] t t' ∧ (∀ i : Nat, i < 1461 → tA t' 69 i = tA t 71 i))) := by
    intro n1
    induction n1 with
    | zero => intro M1 i t1 ok1 fr1 i1_0 i1_1 i1_2 v1 f1; exfalso; omega
    | succ n1 ih1 =>
      intro M1 i t1 ok1 fr1 i1_0 i1_1 i1_2 v1 f1
      obtain ⟨M1, rfl⟩ : ∃ m, M1 = m + 10 := ⟨M1 - 10, by omega⟩
      have ea : ∀ m, tA t1 71 m = tA t 71 m := fun m => fr1.2.1 71 (by simp) m
      refine w_step rfl ?_
      refine w_iload rfl ?_
      refine w_push kc_1461 ?_
      refine w_cge (by omega) (fun h2 => ?_) (fun h2 => ?_)
      · skip
        refine w_step rfl ?_
        refine w_retV ?_
        exact ⟨ok1, fr1, (fun i hi => i1_2 i (by omega))⟩
      refine w_aload rfl ?_
      refine w_iload rfl ?_
      refine w_aload rfl ?_
      refine w_iload rfl ?_
      refine w_iald (i := (i).toNat) (ai_71 _) (by omega) (by omega) (ae_71 _) ok1 (fun z3 hz3 hl3 hh3 => ?_)
      have hj3 := nr_jr (i).toNat
      refine w_iast (i := (i).toNat) (ai_69 _) rfl (by omega) (by omega) (ae_69 _) ok1 (by omega) (fun t4 ht4 ok4 => ?_)
      have fr4 := fr1.uA ht4 (by simp)
      refine w_iinc (lv' := [some (.ref 71), some (.ref 69), some (.int (jI (i + 1)))]) kc_1 rfl rfl ?_
      refine w_goto ?_
      exact ih1 _ (i + 1) t4 ok4 fr4 (by omega) (by omega) (by intro m hm; rw [ht4, tA_uA]; split <;> first | exact i1_2 m (by omega) | (rename_i q; rw [q.2, hz3]; exact ea _)) (by omega) (by omega)
  exact key1 1462 _ 0 t ok fr (by omega) (by omega) (by intro m hm; omega) (by omega) (by omega)
set_option maxRecDepth 100000 in
set_option maxHeartbeats 4000000 in
theorem c_X9_copyAll_69_70 {d : Nat} {t : TS}  (ok : OK t) : CV (EX FU (d + 1)) 131 [.ref 69, .ref 70] (mk t) (fun t' => OK t' ∧ Fr [(70, 100)] t t' ∧ (∀ i : Nat, i < 1461 → tA t' 70 i = tA t 69 i)) := by
  refine CV_ent (d := d + 0) (Bk := bX9_copyAll) (nL := 3) rfl rfl rfl (Nat.le_of_ble_eq_true rfl) ?_
  show Rn _ 1000000 0 [some (.ref 69), some (.ref 70), none] [] _ _
  have fr : Fr [(70, 100)] t t := Fr.rf _ _
  refine w_step rfl ?_
  refine w_push kc_0 ?_
  refine w_istore (lv' := [some (.ref 69), some (.ref 70), some (.int (jI 0))]) rfl ?_
  refine w_goto ?_
  have key1 : ∀ (n1 M1 : Nat) (i : Int) (t1 : TS), OK t1 → Fr [(70, 100)] t t1 → (0 ≤ i) → (i ≤ 1461) → (∀ m : Nat, (m : Int) < i → tA t1 70 m = tA t 69 m) → 1461 - i < (n1 : Int) → 10 * n1 + (100) ≤ M1 → Rn (bX9_copyAll (EX FU (d + 0))) M1 1 [some (.ref 69), some (.ref 70), some (.int (jI i))] [] (mk t1) (PV (fun t' => OK t' ∧ Fr [(70, 100)] t t' ∧ (∀ i : Nat, i < 1461 → tA t' 70 i = tA t 69 i))) := by
    intro n1
    induction n1 with
    | zero => intro M1 i t1 ok1 fr1 i1_0 i1_1 i1_2 v1 f1; exfalso; omega
    | succ n1 ih1 =>
      intro M1 i t1 ok1 fr1 i1_0 i1_1 i1_2 v1 f1
      obtain ⟨M1, rfl⟩ : ∃ m, M1 = m + 10 := ⟨M1 - 10, by omega⟩
      have ea : ∀ m, tA t1 69 m = tA t 69 m := fun m => fr1.2.1 69 (by simp) m
      refine w_step rfl ?_
      refine w_iload rfl ?_
      refine w_push kc_1461 ?_
      refine w_cge (by omega) (fun h2 => ?_) (fun h2 => ?_)
      · skip
        refine w_step rfl ?_
        refine w_retV ?_
        exact ⟨ok1, fr1, (fun i hi => i1_2 i (by omega))⟩
      refine w_aload rfl ?_
      refine w_iload rfl ?_
      refine w_aload rfl ?_
      refine w_iload rfl ?_
      refine w_iald (i := (i).toNat) (ai_69 _) (by omega) (by omega) (ae_69 _) ok1 (fun z3 hz3 hl3 hh3 => ?_)
      have hj3 := nr_jr (i).toNat
      refine w_iast (i := (i).toNat) (ai_70 _) rfl (by omega) (by omega) (ae_70 _) ok1 (by omega) (fun t4 ht4 ok4 => ?_)
      have fr4 := fr1.uA ht4 (by simp)
      refine w_iinc (lv' := [some (.ref 69), some (.ref 70), some (.int (jI (i + 1)))]) kc_1 rfl rfl ?_
      refine w_goto ?_
      exact ih1 _ (i + 1) t4 ok4 fr4 (by omega) (by omega) (by intro m hm; rw [ht4, tA_uA]; split <;> first | exact i1_2 m (by omega) | (rename_i q; rw [q.2, hz3]; exact ea _)) (by omega) (by omega)
  exact key1 1462 _ 0 t ok fr (by omega) (by omega) (by intro m hm; omega) (by omega) (by omega)
set_option maxRecDepth 100000 in
set_option maxHeartbeats 4000000 in
theorem c_X9_told0 {d : Nat} {t : TS} {v : Int}  (ok : OK t) (q0 : -2147483648 ≤ v) (q1 : v ≤ 2147483647) : CI (EX FU (d + 1)) 132 [.int (jI v)] (mk t) (fun z t' => t = t' ∧ ((v < 0 ∧ z = (-1000000005)) ∨ (0 ≤ v ∧ z = v))) := by
  refine CI_ent (d := d + 0) (Bk := bX9_told0) (nL := 1) rfl rfl rfl (Nat.le_of_ble_eq_true rfl) ?_
  show Rn _ 1000000 0 [some (.int (jI v))] [] _ _
  refine w_step rfl ?_
  refine w_iload rfl ?_
  refine w_ige (by omega) (fun h1 => ?_) (fun h1 => ?_)
  · skip
    refine w_step rfl ?_
    refine w_iload rfl ?_
    refine w_goto ?_
    refine w_step rfl ?_
    refine w_retI rfl ?_
    exact ⟨rfl, (by omega)⟩
  refine w_push kc_m1000000005 ?_
  refine w_goto ?_
  refine w_step rfl ?_
  refine w_retI rfl ?_
  exact ⟨rfl, (by omega)⟩
set_option maxRecDepth 100000 in
set_option maxHeartbeats 4000000 in
theorem c_X9_isPlace {d : Nat} {t : TS} {p : Int}  (ok : OK t) (q0 : -2147483648 ≤ p) (q1 : p ≤ 2147483647) : CI (EX FU (d + 2)) 134 [.int (jI p)] (mk t) (fun z t' => t = t' ∧ ((z = 0 ∧ ¬ (0 ≤ p ∧ p ≤ 11)) ∨ (z = 1 ∧ (0 ≤ p ∧ p ≤ 11)))) := by
  refine CI_ent (d := d + 1) (Bk := bX9_isPlace) (nL := 1) rfl rfl rfl (Nat.le_of_ble_eq_true rfl) ?_
  show Rn _ 1000000 0 [some (.int (jI p))] [] _ _
  refine w_step rfl ?_
  refine w_iload rfl ?_
  refine w_push kc_0 ?_
  refine w_push kc_11 ?_
  refine w_callS3I rfl (c_X9_in ok (by omega) (by omega) (by omega) (by omega) (by omega) (by omega)) ?_
  rintro z1 t1 ⟨rfl, hp1_0⟩
  rcases hp1_0 with ⟨rfl, hp1_0⟩ | ⟨rfl, hp1_0⟩
  · skip
    refine w_retI rfl ?_
    exact ⟨rfl, (by omega)⟩
  refine w_retI rfl ?_
  exact ⟨rfl, (by omega)⟩
set_option maxRecDepth 100000 in
set_option maxHeartbeats 4000000 in
theorem c_X9_isSheet {d : Nat} {t : TS} {p : Int}  (ok : OK t) (q0 : -2147483648 ≤ p) (q1 : p ≤ 2147483647) : CI (EX FU (d + 2)) 206 [.int (jI p)] (mk t) (fun z t' => t = t' ∧ ((z = 0 ∧ ¬ (0 ≤ p ∧ p ≤ 3)) ∨ (z = 1 ∧ (0 ≤ p ∧ p ≤ 3)))) := by
  refine CI_ent (d := d + 1) (Bk := bX9_isSheet) (nL := 1) rfl rfl rfl (Nat.le_of_ble_eq_true rfl) ?_
  show Rn _ 1000000 0 [some (.int (jI p))] [] _ _
  refine w_step rfl ?_
  refine w_iload rfl ?_
  refine w_push kc_0 ?_
  refine w_push kc_3 ?_
  refine w_callS3I rfl (c_X9_in ok (by omega) (by omega) (by omega) (by omega) (by omega) (by omega)) ?_
  rintro z1 t1 ⟨rfl, hp1_0⟩
  rcases hp1_0 with ⟨rfl, hp1_0⟩ | ⟨rfl, hp1_0⟩
  · skip
    refine w_retI rfl ?_
    exact ⟨rfl, (by omega)⟩
  refine w_retI rfl ?_
  exact ⟨rfl, (by omega)⟩
set_option maxRecDepth 100000 in
set_option maxHeartbeats 4000000 in
theorem c_X9_isSlot {d : Nat} {t : TS} {p : Int}  (ok : OK t) (q0 : -2147483648 ≤ p) (q1 : p ≤ 2147483647) : CI (EX FU (d + 2)) 207 [.int (jI p)] (mk t) (fun z t' => t = t' ∧ ((z = 0 ∧ ¬ (0 ≤ p ∧ p ≤ 4)) ∨ (z = 1 ∧ (0 ≤ p ∧ p ≤ 4)))) := by
  refine CI_ent (d := d + 1) (Bk := bX9_isSlot) (nL := 1) rfl rfl rfl (Nat.le_of_ble_eq_true rfl) ?_
  show Rn _ 1000000 0 [some (.int (jI p))] [] _ _
  refine w_step rfl ?_
  refine w_iload rfl ?_
  refine w_push kc_0 ?_
  refine w_push kc_4 ?_
  refine w_callS3I rfl (c_X9_in ok (by omega) (by omega) (by omega) (by omega) (by omega) (by omega)) ?_
  rintro z1 t1 ⟨rfl, hp1_0⟩
  rcases hp1_0 with ⟨rfl, hp1_0⟩ | ⟨rfl, hp1_0⟩
  · skip
    refine w_retI rfl ?_
    exact ⟨rfl, (by omega)⟩
  refine w_retI rfl ?_
  exact ⟨rfl, (by omega)⟩
set_option maxRecDepth 100000 in
set_option maxHeartbeats 4000000 in
theorem c_X9_isStone {d : Nat} {t : TS} {s : Int}  (ok : OK t) (q0 : -2147483648 ≤ s) (q1 : s ≤ 2147483647) : CI (EX FU (d + 2)) 133 [.ref 68, .int (jI s)] (mk t) (fun z t' => t = t' ∧ ((z = 0 ∧ ¬ (0 ≤ s ∧ s ≤ tA t 69 1 - 1)) ∨ (z = 1 ∧ (0 ≤ s ∧ s ≤ tA t 69 1 - 1)))) := by
  refine CI_ent (d := d + 1) (Bk := bX9_isStone) (nL := 2) rfl rfl rfl (Nat.le_of_ble_eq_true rfl) ?_
  show Rn _ 1000000 0 [some (.ref 68), some (.int (jI s))] [] _ _
  have hn0 := (ok.a (ax_69 nr_1)).1
  have hn1 := (ok.a (ax_69 nr_1)).2
  refine w_step rfl ?_
  refine w_iload rfl ?_
  refine w_push kc_0 ?_
  refine w_aload rfl ?_
  refine w_getR (g_68_0 _) ?_
  refine w_push kc_1 ?_
  refine w_iald (i := 1) (ai_69 _) (by omega) (by omega) (ax_69 nr_1) ok (fun z1 hz1 hl1 hh1 => ?_)
  refine w_push kc_1 ?_
  refine w_sub ?_
  refine w_callS3I rfl (c_X9_in ok (by omega) (by omega) (by omega) (by omega) (by omega) (by omega)) ?_
  rintro z2 t2 ⟨rfl, hp2_0⟩
  rcases hp2_0 with ⟨rfl, hp2_0⟩ | ⟨rfl, hp2_0⟩
  · skip
    refine w_retI rfl ?_
    exact ⟨rfl, (by omega)⟩
  refine w_retI rfl ?_
  exact ⟨rfl, (by omega)⟩
set_option maxRecDepth 100000 in
set_option maxHeartbeats 4000000 in
theorem c_X9_of {d : Nat} {t : TS} {s w : Int}  (ok : OK t) (q0 : 0 ≤ s) (q1 : s ≤ 11) (q2 : 0 ≤ w) (q3 : w ≤ 4) : CI (EX FU (d + 1)) 135 [.ref 68, .int (jI s), .int (jI w)] (mk t) (fun z t' => t = t' ∧ (z = tA t 69 (29 + 5 * s + w).toNat) ∧ (-2147483648 ≤ z) ∧ (z ≤ 2147483647)) := by
  refine CI_ent (d := d + 0) (Bk := bX9_of) (nL := 3) rfl rfl rfl (Nat.le_of_ble_eq_true rfl) ?_
  show Rn _ 1000000 0 [some (.ref 68), some (.int (jI s)), some (.int (jI w))] [] _ _
  have hn0 := (ok.a (ax_69 nr_1)).1
  have hn1 := (ok.a (ax_69 nr_1)).2
  refine w_step rfl ?_
  refine w_aload rfl ?_
  refine w_getR (g_68_0 _) ?_
  refine w_push kc_29 ?_
  refine w_push kc_5 ?_
  refine w_iload rfl ?_
  refine w_mul ?_
  refine w_add ?_
  refine w_iload rfl ?_
  refine w_add ?_
  refine w_iald (i := (((29 + (5 * s)) + w)).toNat) (ai_69 _) (by omega) (by omega) (ae_69 _) ok (fun z1 hz1 hl1 hh1 => ?_)
  have hj1 := nr_jr (((29 + (5 * s)) + w)).toNat
  refine w_retI rfl ?_
  exact ⟨rfl, (by subst_vars; rfl), (by omega), (by omega)⟩
set_option maxRecDepth 100000 in
set_option maxHeartbeats 4000000 in
theorem c_X9_becomes {d : Nat} {t : TS} {s v : Int}  (ok : OK t) (q0 : 0 ≤ s) (q1 : s ≤ 1460) (q2 : ∃ lo hi, nR s.toNat = (lo, hi) ∧ lo ≤ v ∧ v ≤ hi) : CI (EX FU (d + 1)) 136 [.ref 68, .int (jI s), .int (jI v)] (mk t) (fun z t' => OK t' ∧ Fr [(69, 100)] t t' ∧ (z = tA t 69 s.toNat) ∧ (t' = uA t 69 s.toNat v) ∧ (-2147483648 ≤ z) ∧ (z ≤ 2147483647)) := by
  refine CI_ent (d := d + 0) (Bk := bX9_becomes) (nL := 4) rfl rfl rfl (Nat.le_of_ble_eq_true rfl) ?_
  show Rn _ 1000000 0 [some (.ref 68), some (.int (jI s)), some (.int (jI v)), none] [] _ _
  have fr : Fr [(69, 100)] t t := Fr.rf _ _
  have hn0 := (ok.a (ax_69 nr_1)).1
  have hn1 := (ok.a (ax_69 nr_1)).2
  obtain ⟨lo, hi, hnr, hlo, hhi⟩ := q2
  refine w_step rfl ?_
  refine w_aload rfl ?_
  refine w_getR (g_68_0 _) ?_
  refine w_iload rfl ?_
  refine w_iald (i := (s).toNat) (ai_69 _) (by omega) (by omega) (ae_69 _) ok (fun z1 hz1 hl1 hh1 => ?_)
  have hj1 := nr_jr (s).toNat
  refine w_istore (lv' := [some (.ref 68), some (.int (jI s)), some (.int (jI v)), some (.int (jI z1))]) rfl ?_
  refine w_aload rfl ?_
  refine w_getR (g_68_0 _) ?_
  refine w_iload rfl ?_
  refine w_iload rfl ?_
  refine w_iast (i := (s).toNat) (ai_69 _) rfl (by omega) (by omega) (ax_69 hnr) ok (by omega) (fun t2 ht2 ok2 => ?_)
  have fr2 := fr.uA ht2 (by simp)
  refine w_iload rfl ?_
  refine w_retI rfl ?_
  exact ⟨ok2, fr2, (by omega), (by assumption), (by omega), (by omega)⟩
set_option maxRecDepth 100000 in
set_option maxHeartbeats 4000000 in
theorem c_X9_comes {d : Nat} {t : TS} {k l r : Int}  (ok : OK t) (q0 : 0 ≤ k) (q1 : k ≤ 5) (q2 : 0 ≤ l) (q3 : l ≤ 6) (q4 : 0 ≤ r) (q5 : r ≤ 6) (q6 : tA t 69 1 ≤ 11) : CI (EX FU (d + 1)) 137 [.ref 68, .int (jI k), .int (jI l), .int (jI r)] (mk t) (fun z t' => OK t' ∧ Fr [(69, 100)] t t' ∧ (z = tA t 69 1) ∧ (tA t' 69 1 = tA t 69 1 + 1) ∧ (tA t' 69 (29 + 5 * (tA t 69 1).toNat) = k) ∧ (tA t' 69 (30 + 5 * (tA t 69 1).toNat) = l) ∧ (tA t' 69 (31 + 5 * (tA t 69 1).toNat) = r) ∧ (∀ i, ¬ i = 1 → (i < 29 + 5 * (tA t 69 1).toNat ∨ 34 + 5 * (tA t 69 1).toNat ≤ i) → tA t' 69 i = tA t 69 i)) := by
  refine CI_ent (d := d + 0) (Bk := bX9_comes) (nL := 6) rfl rfl rfl (Nat.le_of_ble_eq_true rfl) ?_
  show Rn _ 1000000 0 [some (.ref 68), some (.int (jI k)), some (.int (jI l)), some (.int (jI r)), none, none] [] _ _
  have fr : Fr [(69, 100)] t t := Fr.rf _ _
  have hn0 := (ok.a (ax_69 nr_1)).1
  have hn1 := (ok.a (ax_69 nr_1)).2
  refine w_step rfl ?_
  refine w_aload rfl ?_
  refine w_getR (g_68_0 _) ?_
  refine w_push kc_1 ?_
  refine w_iald (i := 1) (ai_69 _) (by omega) (by omega) (ax_69 nr_1) ok (fun z1 hz1 hl1 hh1 => ?_)
  have en := hz1
  refine w_istore (lv' := [some (.ref 68), some (.int (jI k)), some (.int (jI l)), some (.int (jI r)), some (.int (jI z1)), none]) rfl ?_
  refine w_push kc_29 ?_
  refine w_push kc_5 ?_
  refine w_iload rfl ?_
  refine w_mul ?_
  refine w_add ?_
  refine w_istore (lv' := [some (.ref 68), some (.int (jI k)), some (.int (jI l)), some (.int (jI r)), some (.int (jI z1)), some (.int (jI (29 + (5 * z1))))]) rfl ?_
  refine w_aload rfl ?_
  refine w_getR (g_68_0 _) ?_
  refine w_iload rfl ?_
  refine w_iload rfl ?_
  refine w_iast (i := ((29 + (5 * z1))).toNat) (ai_69 _) rfl (by omega) (by omega) (ax_69 (nr_S0 (s := z1.toNat) (by omega))) ok (by omega) (fun t2 ht2 ok2 => ?_)
  have fr2 := fr.uA ht2 (by simp)
  have w1 := ht2
  refine w_aload rfl ?_
  refine w_getR (g_68_0 _) ?_
  refine w_iload rfl ?_
  refine w_push kc_1 ?_
  refine w_add ?_
  refine w_iload rfl ?_
  refine w_iast (i := (((29 + (5 * z1)) + 1)).toNat) (ai_69 _) rfl (by omega) (by omega) (ax_69 (nr_S1 (s := z1.toNat) (by omega))) ok2 (by omega) (fun t3 ht3 ok3 => ?_)
  have fr3 := fr2.uA ht3 (by simp)
  have w2 := ht3
  refine w_aload rfl ?_
  refine w_getR (g_68_0 _) ?_
  refine w_iload rfl ?_
  refine w_push kc_2 ?_
  refine w_add ?_
  refine w_iload rfl ?_
  refine w_iast (i := (((29 + (5 * z1)) + 2)).toNat) (ai_69 _) rfl (by omega) (by omega) (ax_69 (nr_S2 (s := z1.toNat) (by omega))) ok3 (by omega) (fun t4 ht4 ok4 => ?_)
  have fr4 := fr3.uA ht4 (by simp)
  have w3 := ht4
  refine w_aload rfl ?_
  refine w_getR (g_68_0 _) ?_
  refine w_iload rfl ?_
  refine w_push kc_3 ?_
  refine w_add ?_
  refine w_push kc_12 ?_
  refine w_iast (i := (((29 + (5 * z1)) + 3)).toNat) (ai_69 _) rfl (by omega) (by omega) (ax_69 (nr_S3 (s := z1.toNat) (by omega))) ok4 (by omega) (fun t5 ht5 ok5 => ?_)
  have fr5 := fr4.uA ht5 (by simp)
  have w4 := ht5
  refine w_aload rfl ?_
  refine w_getR (g_68_0 _) ?_
  refine w_iload rfl ?_
  refine w_push kc_4 ?_
  refine w_add ?_
  refine w_push kc_0 ?_
  refine w_iast (i := (((29 + (5 * z1)) + 4)).toNat) (ai_69 _) rfl (by omega) (by omega) (ax_69 (nr_S4 (s := z1.toNat) (by omega))) ok5 (by omega) (fun t6 ht6 ok6 => ?_)
  have fr6 := fr5.uA ht6 (by simp)
  have w5 := ht6
  have e5 : tA t6 69 1 = tA t 69 1 := by rw [w5, tA_uA, if_neg (by omega), w4, tA_uA, if_neg (by omega), w3, tA_uA, if_neg (by omega), w2, tA_uA, if_neg (by omega), w1, tA_uA, if_neg (by omega)]
  refine w_aload rfl ?_
  refine w_getR (g_68_0 _) ?_
  refine w_push kc_1 ?_
  refine w_dup2 ?_
  refine w_iald (i := 1) (ai_69 _) (by omega) (by omega) (ax_69 nr_1) ok6 (fun z7 hz7 hl7 hh7 => ?_)
  refine w_push kc_1 ?_
  refine w_add ?_
  refine w_iast (i := 1) (ai_69 _) rfl (by omega) (by omega) (ax_69 nr_1) ok6 (by omega) (fun t8 ht8 ok8 => ?_)
  have fr8 := fr6.uA ht8 (by simp)
  have w6 := ht8
  refine w_iload rfl ?_
  refine w_retI rfl ?_
  exact ⟨ok8, fr8, (by omega), (by rw [w6, tA_uA, if_pos ⟨rfl, rfl⟩]; omega), (by rw [w6, tA_uA, if_neg (by omega), w5, tA_uA, if_neg (by omega), w4, tA_uA, if_neg (by omega), w3, tA_uA, if_neg (by omega), w2, tA_uA, if_neg (by omega), w1, tA_uA, if_pos (by omega)]), (by rw [w6, tA_uA, if_neg (by omega), w5, tA_uA, if_neg (by omega), w4, tA_uA, if_neg (by omega), w3, tA_uA, if_neg (by omega), w2, tA_uA, if_pos (by omega)]), (by rw [w6, tA_uA, if_neg (by omega), w5, tA_uA, if_neg (by omega), w4, tA_uA, if_neg (by omega), w3, tA_uA, if_pos (by omega)]), (by intro i h1 h2; rw [w6, tA_uA, if_neg (by omega), w5, tA_uA, if_neg (by omega), w4, tA_uA, if_neg (by omega), w3, tA_uA, if_neg (by omega), w2, tA_uA, if_neg (by omega), w1, tA_uA, if_neg (by omega)])⟩
set_option maxRecDepth 100000 in
set_option maxHeartbeats 4000000 in
theorem c_X9_draw {d : Nat} {t : TS}  (ok : OK t) : CI (EX FU (d + 1)) 154 [.ref 68] (mk t) (fun z t' => OK t' ∧ Fr [(69, 100)] t t' ∧ (t' = uA t 69 0 (znF (tA t 69 0))) ∧ (z = drF (znF (tA t 69 0))) ∧ (0 ≤ z) ∧ (z < 16777216)) := by
  refine CI_ent (d := d + 0) (Bk := bX9_draw) (nL := 1) rfl rfl rfl (Nat.le_of_ble_eq_true rfl) ?_
  show Rn _ 1000000 0 [some (.ref 68)] [] _ _
  have fr : Fr [(69, 100)] t t := Fr.rf _ _
  have hn0 := (ok.a (ax_69 nr_1)).1
  have hn1 := (ok.a (ax_69 nr_1)).2
  refine w_step rfl ?_
  refine w_aload rfl ?_
  refine w_getR (g_68_0 _) ?_
  refine w_push kc_0 ?_
  refine w_aload rfl ?_
  refine w_getR (g_68_0 _) ?_
  refine w_push kc_0 ?_
  refine w_iald (i := 0) (ai_69 _) (by omega) (by omega) (ax_69 nr_0) ok (fun z1 hz1 hl1 hh1 => ?_)
  refine w_push kc_1103515245 ?_
  refine w_mulW (fun z2 hz2 hl2 hh2 => ?_)
  refine w_push kc_12345 ?_
  refine w_addW (fun z3 hz3 hl3 hh3 => ?_)
  refine w_iast (i := 0) (ai_69 _) rfl (by omega) (by omega) (ax_69 nr_0) ok (by omega) (fun t4 ht4 ok4 => ?_)
  have fr4 := fr.uA ht4 (by simp)
  refine w_aload rfl ?_
  refine w_getR (g_68_0 _) ?_
  refine w_push kc_0 ?_
  refine w_iald (i := 0) (ai_69 _) (by omega) (by omega) (ax_69 nr_0) ok4 (fun z5 hz5 hl5 hh5 => ?_)
  refine w_push kc_8 ?_
  refine w_bin (fun z6 hz6 hl6 hh6 => ?_)
  have hu6 := ah_ushr8 hz6
  refine w_retI rfl ?_
  exact ⟨ok4, fr4, (by subst_vars; rfl), (by subst_vars; simp [tA_uA, znF, drF]), (by omega), (by omega)⟩
set_option maxRecDepth 100000 in
set_option maxHeartbeats 4000000 in
theorem c_X9_holder {d : Nat} {t : TS} {p : Int}  (ok : OK t) (q0 : -2147483648 ≤ p) (q1 : p ≤ 2147483647) : CI (EX FU (d + 2)) 149 [.ref 68, .int (jI p)] (mk t) (fun z t' => t = t' ∧ (-1 ≤ z) ∧ (z ≤ 11)) := by
  refine CI_ent (d := d + 1) (Bk := bX9_holder) (nL := 4) rfl rfl rfl (Nat.le_of_ble_eq_true rfl) ?_
  show Rn _ 1000000 0 [some (.ref 68), some (.int (jI p)), none, none] [] _ _
  have hn0 := (ok.a (ax_69 nr_1)).1
  have hn1 := (ok.a (ax_69 nr_1)).2
  refine w_step rfl ?_
  refine w_push kc_m1 ?_
  refine w_istore (lv' := [some (.ref 68), some (.int (jI p)), some (.int (jI (-1))), none]) rfl ?_
  refine w_push kc_0 ?_
  refine w_istore (lv' := [some (.ref 68), some (.int (jI p)), some (.int (jI (-1))), some (.int (jI 0))]) rfl ?_
  refine w_goto ?_
  have key1 : ∀ (n1 M1 : Nat) (found : Int) (s : Int), (-1 ≤ found) → (found ≤ 11) → (0 ≤ s) → (s ≤ 12) → 12 - s < (n1 : Int) → 60 * n1 + (1000) ≤ M1 → Rn (bX9_holder (EX FU (d + 1))) M1 1 [some (.ref 68), some (.int (jI p)), some (.int (jI found)), some (.int (jI s))] [] (mk t) (PI (fun z t' => t = t' ∧ (-1 ≤ z) ∧ (z ≤ 11))) := by
    intro n1
    induction n1 with
    | zero => intro M1 found s i1_0 i1_1 i1_2 i1_3 v1 f1; exfalso; omega
    | succ n1 ih1 =>
      intro M1 found s i1_0 i1_1 i1_2 i1_3 v1 f1
      obtain ⟨M1, rfl⟩ : ∃ m, M1 = m + 60 := ⟨M1 - 60, by omega⟩
      refine w_step rfl ?_
      refine w_iload rfl ?_
      refine w_aload rfl ?_
      refine w_getR (g_68_0 _) ?_
      refine w_push kc_1 ?_
      refine w_iald (i := 1) (ai_69 _) (by omega) (by omega) (ax_69 nr_1) ok (fun z1 hz1 hl1 hh1 => ?_)
      refine w_cge (by omega) (fun h2 => ?_) (fun h2 => ?_)
      · skip
        refine w_step rfl ?_
        refine w_iload rfl ?_
        refine w_retI rfl ?_
        exact ⟨rfl, (by omega), (by omega)⟩
      refine w_aload rfl ?_
      refine w_iload rfl ?_
      refine w_push kc_3 ?_
      refine w_callV2I (oj_68 _).choose_spec rfl (c_X9_of ok (by omega) (by omega) (by omega) (by omega)) ?_
      rintro z3 t3 ⟨rfl, hp3_0, hp3_1, hp3_2⟩
      have hr3 := of_r3 (s := s) ok (by omega)
      refine w_iload rfl ?_
      refine w_cne (by omega) (fun h4 => ?_) (fun h4 => ?_)
      · skip
        refine w_step rfl ?_
        refine w_iload rfl ?_
        refine w_goto ?_
        refine w_step rfl ?_
        refine w_istore (lv' := [some (.ref 68), some (.int (jI p)), some (.int (jI found)), some (.int (jI s))]) rfl ?_
        refine w_iinc (lv' := [some (.ref 68), some (.int (jI p)), some (.int (jI found)), some (.int (jI (s + 1)))]) kc_1 rfl rfl ?_
        refine w_goto ?_
        exact ih1 _ found (s + 1)  (by omega) (by omega) (by omega) (by omega) (by omega) (by omega)
      refine w_iload rfl ?_
      refine w_goto ?_
      refine w_step rfl ?_
      refine w_istore (lv' := [some (.ref 68), some (.int (jI p)), some (.int (jI s)), some (.int (jI s))]) rfl ?_
      refine w_iinc (lv' := [some (.ref 68), some (.int (jI p)), some (.int (jI s)), some (.int (jI (s + 1)))]) kc_1 rfl rfl ?_
      refine w_goto ?_
      exact ih1 _ s (s + 1)  (by omega) (by omega) (by omega) (by omega) (by omega) (by omega)
  exact key1 13 _ (-1) 0  (by omega) (by omega) (by omega) (by omega) (by omega) (by omega)
set_option maxRecDepth 100000 in
set_option maxHeartbeats 4000000 in
theorem c_X9_heavyOf {d : Nat} {t : TS} {s : Int}  (ok : OK t) (q0 : 0 ≤ s) (q1 : s ≤ 11) : CI (EX FU (d + 2)) 139 [.ref 68, .int (jI s)] (mk t) (fun z t' => t = t' ∧ (z = hvF (tA t 69 (29 + 5 * s + 0).toNat) (tA t 69 (29 + 5 * s + 1).toNat) (tA t 69 (29 + 5 * s + 2).toNat)) ∧ (0 ≤ z) ∧ (z ≤ 28)) := by
  refine CI_ent (d := d + 1) (Bk := bX9_heavyOf) (nL := 3) rfl rfl rfl (Nat.le_of_ble_eq_true rfl) ?_
  show Rn _ 1000000 0 [some (.ref 68), some (.int (jI s)), none] [] _ _
  have hn0 := (ok.a (ax_69 nr_1)).1
  have hn1 := (ok.a (ax_69 nr_1)).2
  refine w_step rfl ?_
  refine w_aload rfl ?_
  refine w_iload rfl ?_
  refine w_push kc_1 ?_
  refine w_callV2I (oj_68 _).choose_spec rfl (c_X9_of ok (by omega) (by omega) (by omega) (by omega)) ?_
  rintro z1 t1 ⟨rfl, hp1_0, hp1_1, hp1_2⟩
  have hr1 := of_r1 (s := s) ok (by omega)
  refine w_aload rfl ?_
  refine w_iload rfl ?_
  refine w_push kc_2 ?_
  refine w_callV2I (oj_68 _).choose_spec rfl (c_X9_of ok (by omega) (by omega) (by omega) (by omega)) ?_
  rintro z2 t2 ⟨rfl, hp2_0, hp2_1, hp2_2⟩
  have hr2 := of_r2 (s := s) ok (by omega)
  refine w_add ?_
  refine w_istore (lv' := [some (.ref 68), some (.int (jI s)), some (.int (jI (z1 + z2)))]) rfl ?_
  refine w_aload rfl ?_
  refine w_iload rfl ?_
  refine w_push kc_0 ?_
  refine w_callV2I (oj_68 _).choose_spec rfl (c_X9_of ok (by omega) (by omega) (by omega) (by omega)) ?_
  rintro z3 t3 ⟨rfl, hp3_0, hp3_1, hp3_2⟩
  have hr3 := of_r0 (s := s) ok (by omega)
  have hs4 : z3 = 1 ∨ z3 = 2 ∨ z3 = 4 ∨ z3 = 3 ∨ z3 = 5 ∨ (z3 < 1 ∨ 1 + 5 ≤ z3) := (by omega)
  rcases hs4 with hs4 | hs4 | hs4 | hs4 | hs4 | hs4
  · refine w_sw (n := 1) (tsw_at hs4 (by decide)) ?_
    refine w_step rfl ?_
    refine w_iload rfl ?_
    refine w_push kc_2 ?_
    refine w_add ?_
    refine w_retI rfl ?_
    exact ⟨rfl, (by unfold hvF; (repeat' split) <;> omega), (by omega), (by omega)⟩
  · refine w_sw (n := 2) (tsw_at hs4 (by decide)) ?_
    refine w_step rfl ?_
    refine w_iload rfl ?_
    refine w_push kc_2 ?_
    refine w_div (by omega) ?_
    refine w_retI rfl ?_
    exact ⟨rfl, (by unfold hvF; (repeat' split) <;> omega), (by omega), (by omega)⟩
  · refine w_sw (n := 2) (tsw_at hs4 (by decide)) ?_
    refine w_step rfl ?_
    refine w_iload rfl ?_
    refine w_push kc_2 ?_
    refine w_div (by omega) ?_
    refine w_retI rfl ?_
    exact ⟨rfl, (by unfold hvF; (repeat' split) <;> omega), (by omega), (by omega)⟩
  · refine w_sw (n := 3) (tsw_at hs4 (by decide)) ?_
    refine w_step rfl ?_
    refine w_push kc_2 ?_
    refine w_iload rfl ?_
    refine w_push kc_2 ?_
    refine w_add ?_
    refine w_mul ?_
    refine w_retI rfl ?_
    exact ⟨rfl, (by unfold hvF; (repeat' split) <;> omega), (by omega), (by omega)⟩
  · refine w_sw (n := 4) (tsw_at hs4 (by decide)) ?_
    refine w_step rfl ?_
    refine w_push kc_1 ?_
    refine w_retI rfl ?_
    exact ⟨rfl, (by unfold hvF; (repeat' split) <;> omega), (by omega), (by omega)⟩
  · refine w_sw (n := 5) (tsw_df (m := 5) rfl (by omega) (by omega)) ?_
    refine w_step rfl ?_
    refine w_iload rfl ?_
    refine w_retI rfl ?_
    exact ⟨rfl, (by unfold hvF; (repeat' split) <;> omega), (by omega), (by omega)⟩
set_option maxRecDepth 100000 in
set_option maxHeartbeats 4000000 in
theorem c_X9_worthOf {d : Nat} {t : TS} {s : Int}  (ok : OK t) (q0 : 0 ≤ s) (q1 : s ≤ 11) : CI (EX FU (d + 2)) 140 [.ref 68, .int (jI s)] (mk t) (fun z t' => t = t' ∧ (z = woF (tA t 69 (29 + 5 * s + 0).toNat) (tA t 69 (29 + 5 * s + 1).toNat) (tA t 69 (29 + 5 * s + 2).toNat)) ∧ (0 ≤ z) ∧ (z ≤ 146)) := by
  refine CI_ent (d := d + 1) (Bk := bX9_worthOf) (nL := 3) rfl rfl rfl (Nat.le_of_ble_eq_true rfl) ?_
  show Rn _ 1000000 0 [some (.ref 68), some (.int (jI s)), none] [] _ _
  have hn0 := (ok.a (ax_69 nr_1)).1
  have hn1 := (ok.a (ax_69 nr_1)).2
  refine w_step rfl ?_
  refine w_push kc_10 ?_
  refine w_aload rfl ?_
  refine w_iload rfl ?_
  refine w_push kc_1 ?_
  refine w_callV2I (oj_68 _).choose_spec rfl (c_X9_of ok (by omega) (by omega) (by omega) (by omega)) ?_
  rintro z1 t1 ⟨rfl, hp1_0, hp1_1, hp1_2⟩
  have hr1 := of_r1 (s := s) ok (by omega)
  refine w_mul ?_
  refine w_aload rfl ?_
  refine w_iload rfl ?_
  refine w_push kc_2 ?_
  refine w_callV2I (oj_68 _).choose_spec rfl (c_X9_of ok (by omega) (by omega) (by omega) (by omega)) ?_
  rintro z2 t2 ⟨rfl, hp2_0, hp2_1, hp2_2⟩
  have hr2 := of_r2 (s := s) ok (by omega)
  refine w_add ?_
  refine w_istore (lv' := [some (.ref 68), some (.int (jI s)), some (.int (jI ((10 * z1) + z2)))]) rfl ?_
  refine w_aload rfl ?_
  refine w_iload rfl ?_
  refine w_push kc_0 ?_
  refine w_callV2I (oj_68 _).choose_spec rfl (c_X9_of ok (by omega) (by omega) (by omega) (by omega)) ?_
  rintro z3 t3 ⟨rfl, hp3_0, hp3_1, hp3_2⟩
  have hr3 := of_r0 (s := s) ok (by omega)
  have hs4 : z3 = 1 ∨ z3 = 2 ∨ z3 = 3 ∨ z3 = 4 ∨ z3 = 5 ∨ (z3 < 1 ∨ 1 + 5 ≤ z3) := (by omega)
  rcases hs4 with hs4 | hs4 | hs4 | hs4 | hs4 | hs4
  · refine w_sw (n := 1) (tsw_at hs4 (by decide)) ?_
    refine w_step rfl ?_
    refine w_iload rfl ?_
    refine w_push kc_7 ?_
    refine w_add ?_
    refine w_retI rfl ?_
    exact ⟨rfl, (by unfold woF; (repeat' split) <;> omega), (by omega), (by omega)⟩
  · refine w_sw (n := 2) (tsw_at hs4 (by decide)) ?_
    refine w_step rfl ?_
    refine w_push kc_99 ?_
    refine w_iload rfl ?_
    refine w_sub ?_
    refine w_retI rfl ?_
    exact ⟨rfl, (by unfold woF; (repeat' split) <;> omega), (by omega), (by omega)⟩
  · refine w_sw (n := 3) (tsw_at hs4 (by decide)) ?_
    refine w_step rfl ?_
    refine w_push kc_2 ?_
    refine w_iload rfl ?_
    refine w_push kc_7 ?_
    refine w_add ?_
    refine w_mul ?_
    refine w_retI rfl ?_
    exact ⟨rfl, (by unfold woF; (repeat' split) <;> omega), (by omega), (by omega)⟩
  · refine w_sw (n := 4) (tsw_at hs4 (by decide)) ?_
    refine w_step rfl ?_
    refine w_push kc_95 ?_
    refine w_iload rfl ?_
    refine w_sub ?_
    refine w_retI rfl ?_
    exact ⟨rfl, (by unfold woF; (repeat' split) <;> omega), (by omega), (by omega)⟩
  · refine w_sw (n := 5) (tsw_at hs4 (by decide)) ?_
    refine w_step rfl ?_
    refine w_push kc_3 ?_
    refine w_retI rfl ?_
    exact ⟨rfl, (by unfold woF; (repeat' split) <;> omega), (by omega), (by omega)⟩
  · refine w_sw (n := 6) (tsw_df (m := 5) rfl (by omega) (by omega)) ?_
    refine w_step rfl ?_
    refine w_iload rfl ?_
    refine w_retI rfl ?_
    exact ⟨rfl, (by unfold woF; (repeat' split) <;> omega), (by omega), (by omega)⟩
set_option maxRecDepth 100000 in
set_option maxHeartbeats 4000000 in
theorem c_X9_spotsOf {d : Nat} {t : TS} {s h u : Int}  (ok : OK t) (q0 : 0 ≤ s) (q1 : s ≤ 11) (q2 : -2147483648 ≤ h) (q3 : h ≤ 2147483647) (q4 : -2147483648 ≤ u) (q5 : u ≤ 2147483647) : CI (EX FU (d + 2)) 142 [.ref 68, .int (jI s), .int (jI h), .int (jI u)] (mk t) (fun z t' => t = t' ∧ (0 ≤ z) ∧ (z ≤ 6)) := by
  refine CI_ent (d := d + 1) (Bk := bX9_spotsOf) (nL := 4) rfl rfl rfl (Nat.le_of_ble_eq_true rfl) ?_
  show Rn _ 1000000 0 [some (.ref 68), some (.int (jI s)), some (.int (jI h)), some (.int (jI u))] [] _ _
  have hn0 := (ok.a (ax_69 nr_1)).1
  have hn1 := (ok.a (ax_69 nr_1)).2
  refine w_step rfl ?_
  refine w_aload rfl ?_
  refine w_iload rfl ?_
  refine w_iload rfl ?_
  refine w_iload rfl ?_
  refine w_cne (by omega) (fun h1 => ?_) (fun h1 => ?_)
  · skip
    refine w_step rfl ?_
    refine w_push kc_2 ?_
    refine w_goto ?_
    refine w_step rfl ?_
    refine w_callV2I (oj_68 _).choose_spec rfl (c_X9_of ok (by omega) (by omega) (by omega) (by omega)) ?_
    rintro z2 t2 ⟨rfl, hp2_0, hp2_1, hp2_2⟩
    have hr2 := of_r2 (s := s) ok (by omega)
    refine w_retI rfl ?_
    exact ⟨rfl, (by omega), (by omega)⟩
  refine w_push kc_1 ?_
  refine w_goto ?_
  refine w_step rfl ?_
  refine w_callV2I (oj_68 _).choose_spec rfl (c_X9_of ok (by omega) (by omega) (by omega) (by omega)) ?_
  rintro z3 t3 ⟨rfl, hp3_0, hp3_1, hp3_2⟩
  have hr3 := of_r1 (s := s) ok (by omega)
  refine w_retI rfl ?_
  exact ⟨rfl, (by omega), (by omega)⟩
set_option maxRecDepth 100000 in
set_option maxHeartbeats 4000000 in
theorem c_X9_isUnder {d : Nat} {t : TS} {k w : Int}  (ok : OK t) (q0 : -2147483648 ≤ k) (q1 : k ≤ 2147483647) (q2 : -2147483648 ≤ w) (q3 : w ≤ 2147483647) : CI (EX FU (d + 1)) 146 [.int (jI k), .int (jI w)] (mk t) (fun z t' => t = t' ∧ ((z = 0 ∧ ¬ (k = w ∨ w = 0 ∨ (w = 1 ∧ k = 3) ∨ (w = 2 ∧ k = 4))) ∨ (z = 1 ∧ (k = w ∨ w = 0 ∨ (w = 1 ∧ k = 3) ∨ (w = 2 ∧ k = 4))))) := by
  refine CI_ent (d := d + 0) (Bk := bX9_isUnder) (nL := 2) rfl rfl rfl (Nat.le_of_ble_eq_true rfl) ?_
  show Rn _ 1000000 0 [some (.int (jI k)), some (.int (jI w))] [] _ _
  refine w_step rfl ?_
  refine w_iload rfl ?_
  refine w_ieq (by omega) (fun h1 => ?_) (fun h1 => ?_)
  · skip
    refine w_step rfl ?_
    refine w_push kc_1 ?_
    refine w_goto ?_
    refine w_step rfl ?_
    refine w_retI rfl ?_
    exact ⟨rfl, (by omega)⟩
  refine w_iload rfl ?_
  refine w_iload rfl ?_
  refine w_ceq (by omega) (fun h2 => ?_) (fun h2 => ?_)
  · skip
    refine w_step rfl ?_
    refine w_push kc_1 ?_
    refine w_goto ?_
    refine w_step rfl ?_
    refine w_retI rfl ?_
    exact ⟨rfl, (by omega)⟩
  refine w_iload rfl ?_
  refine w_push kc_1 ?_
  refine w_cne (by omega) (fun h3 => ?_) (fun h3 => ?_)
  · skip
    refine w_step rfl ?_
    refine w_iload rfl ?_
    refine w_push kc_2 ?_
    refine w_cne (by omega) (fun h4 => ?_) (fun h4 => ?_)
    · skip
      refine w_step rfl ?_
      refine w_push kc_0 ?_
      refine w_goto ?_
      refine w_step rfl ?_
      refine w_retI rfl ?_
      exact ⟨rfl, (by omega)⟩
    refine w_iload rfl ?_
    refine w_push kc_4 ?_
    refine w_cne (by omega) (fun h5 => ?_) (fun h5 => ?_)
    · skip
      refine w_step rfl ?_
      refine w_push kc_0 ?_
      refine w_goto ?_
      refine w_step rfl ?_
      refine w_retI rfl ?_
      exact ⟨rfl, (by omega)⟩
    refine w_goto ?_
    refine w_step rfl ?_
    refine w_push kc_1 ?_
    refine w_goto ?_
    refine w_step rfl ?_
    refine w_retI rfl ?_
    exact ⟨rfl, (by omega)⟩
  refine w_iload rfl ?_
  refine w_push kc_3 ?_
  refine w_ceq (by omega) (fun h6 => ?_) (fun h6 => ?_)
  · skip
    refine w_step rfl ?_
    refine w_push kc_1 ?_
    refine w_goto ?_
    refine w_step rfl ?_
    refine w_retI rfl ?_
    exact ⟨rfl, (by omega)⟩
  refine w_goto ?_
  refine w_step rfl ?_
  refine w_iload rfl ?_
  refine w_push kc_2 ?_
  refine w_cne (by omega) (fun _ => ?_) (fun h => absurd (by omega) h)
  refine w_step rfl ?_
  refine w_push kc_0 ?_
  refine w_goto ?_
  refine w_step rfl ?_
  refine w_retI rfl ?_
  exact ⟨rfl, (by omega)⟩
set_option maxRecDepth 100000 in
set_option maxHeartbeats 4000000 in
theorem c_X9_counts {d : Nat} {t : TS} {k : Int}  (ok : OK t) (q0 : 0 ≤ k) (q1 : k ≤ 2) : CI (EX FU (d + 1)) 202 [.ref 68, .int (jI k)] (mk t) (fun z t' => t = t' ∧ (-1 ≤ z) ∧ (z ≤ 13) ∧ (z < tA t 69 4 ∨ z = -1)) := by
  refine CI_ent (d := d + 0) (Bk := bX9_counts) (nL := 3) rfl rfl rfl (Nat.le_of_ble_eq_true rfl) ?_
  show Rn _ 1000000 0 [some (.ref 68), some (.int (jI k)), none] [] _ _
  have hn0 := (ok.a (ax_69 nr_1)).1
  have hn1 := (ok.a (ax_69 nr_1)).2
  have hx0 := (ok.a (ax_69 nr_4)).1
  have hx1 := (ok.a (ax_69 nr_4)).2
  refine w_step rfl ?_
  refine w_aload rfl ?_
  refine w_getR (g_68_0 _) ?_
  refine w_push kc_4 ?_
  refine w_iald (i := 4) (ai_69 _) (by omega) (by omega) (ax_69 nr_4) ok (fun z1 hz1 hl1 hh1 => ?_)
  refine w_push kc_1 ?_
  refine w_sub ?_
  refine w_istore (lv' := [some (.ref 68), some (.int (jI k)), some (.int (jI (z1 - 1)))]) rfl ?_
  refine w_goto ?_
  have key1 : ∀ (n1 M1 : Nat) (x : Int), (-1 ≤ x) → (x ≤ tA t 69 4 - 1) → x + 1 < (n1 : Int) → 60 * n1 + (1000) ≤ M1 → Rn (bX9_counts (EX FU (d + 0))) M1 1 [some (.ref 68), some (.int (jI k)), some (.int (jI x))] [] (mk t) (PI (fun z t' => t = t' ∧ (-1 ≤ z) ∧ (z ≤ 13) ∧ (z < tA t 69 4 ∨ z = -1))) := by
    intro n1
    induction n1 with
    | zero => intro M1 x i1_0 i1_1 v1 f1; exfalso; omega
    | succ n1 ih1 =>
      intro M1 x i1_0 i1_1 v1 f1
      obtain ⟨M1, rfl⟩ : ∃ m, M1 = m + 60 := ⟨M1 - 60, by omega⟩
      refine w_step rfl ?_
      refine w_iload rfl ?_
      refine w_ilt (by omega) (fun h2 => ?_) (fun h2 => ?_)
      · skip
        refine w_step rfl ?_
        refine w_push kc_m1 ?_
        refine w_retI rfl ?_
        exact ⟨rfl, (by omega), (by omega), (by omega)⟩
      refine w_aload rfl ?_
      refine w_getR (g_68_0 _) ?_
      refine w_push kc_89 ?_
      refine w_push kc_2 ?_
      refine w_iload rfl ?_
      refine w_mul ?_
      refine w_add ?_
      refine w_iald (i := ((89 + (2 * x))).toNat) (ai_69 _) (by omega) (by omega) (ax_69 (nr_T0 (s := x.toNat) (by omega))) ok (fun z3 hz3 hl3 hh3 => ?_)
      refine w_push kc_1000 ?_
      refine w_div (by omega) ?_
      refine w_iload rfl ?_
      refine w_cne (by omega) (fun h4 => ?_) (fun h4 => ?_)
      · skip
        refine w_step rfl ?_
        refine w_iinc (lv' := [some (.ref 68), some (.int (jI k)), some (.int (jI (x + (-1))))]) kc_m1 rfl rfl ?_
        refine w_goto ?_
        exact ih1 _ (x + (-1))  (by omega) (by omega) (by omega) (by omega)
      refine w_iload rfl ?_
      refine w_retI rfl ?_
      exact ⟨rfl, (by omega), (by omega), (by omega)⟩
  exact key1 16 _ (z1 - 1)  (by omega) (by omega) (by omega) (by omega)
set_option maxRecDepth 100000 in
set_option maxHeartbeats 4000000 in
theorem c_X9_two {d : Nat} {t : TS} {s x y : Int}  (ok : OK t) (q0 : -2147483648 ≤ s) (q1 : s ≤ 2147483647) (q2 : -2147483648 ≤ x) (q3 : x ≤ 2147483647) (q4 : -2147483648 ≤ y) (q5 : y ≤ 2147483647) : CI (EX FU (d + 1)) 204 [.int (jI s), .int (jI x), .int (jI y)] (mk t) (fun z t' => t = t' ∧ (-2147483648 ≤ z) ∧ (z ≤ 2147483647)) := by
  refine CI_ent (d := d + 0) (Bk := bX9_two) (nL := 3) rfl rfl rfl (Nat.le_of_ble_eq_true rfl) ?_
  show Rn _ 1000000 0 [some (.int (jI s)), some (.int (jI x)), some (.int (jI y))] [] _ _
  refine w_step rfl ?_
  refine w_iload rfl ?_
  have hs1 : s = (-8) ∨ s = (-7) ∨ s = (-6) ∨ s = (-5) ∨ s = (-4) ∨ s = (-3) ∨ s = (-2) ∨ s = (-1) ∨ (s < (-8) ∨ (-8) + 8 ≤ s) := (by omega)
  rcases hs1 with hs1 | hs1 | hs1 | hs1 | hs1 | hs1 | hs1 | hs1 | hs1
  · refine w_sw (n := 19) (tsw_at hs1 (by decide)) ?_
    refine w_step rfl ?_
    refine w_iload rfl ?_
    refine w_iload rfl ?_
    refine w_mulW (fun z2 hz2 hl2 hh2 => ?_)
    refine w_retI rfl ?_
    exact ⟨rfl, (by omega), (by omega)⟩
  · refine w_sw (n := 18) (tsw_at hs1 (by decide)) ?_
    refine w_step rfl ?_
    refine w_iload rfl ?_
    refine w_iload rfl ?_
    refine w_subW (fun z3 hz3 hl3 hh3 => ?_)
    refine w_retI rfl ?_
    exact ⟨rfl, (by omega), (by omega)⟩
  · refine w_sw (n := 17) (tsw_at hs1 (by decide)) ?_
    refine w_step rfl ?_
    refine w_iload rfl ?_
    refine w_iload rfl ?_
    refine w_addW (fun z4 hz4 hl4 hh4 => ?_)
    refine w_retI rfl ?_
    exact ⟨rfl, (by omega), (by omega)⟩
  · refine w_sw (n := 14) (tsw_at hs1 (by decide)) ?_
    refine w_step rfl ?_
    refine w_iload rfl ?_
    refine w_iload rfl ?_
    refine w_cle (by omega) (fun h5 => ?_) (fun h5 => ?_)
    · skip
      refine w_step rfl ?_
      refine w_push kc_0 ?_
      refine w_goto ?_
      refine w_step rfl ?_
      refine w_retI rfl ?_
      exact ⟨rfl, (by omega), (by omega)⟩
    refine w_push kc_1 ?_
    refine w_goto ?_
    refine w_step rfl ?_
    refine w_retI rfl ?_
    exact ⟨rfl, (by omega), (by omega)⟩
  · refine w_sw (n := 11) (tsw_at hs1 (by decide)) ?_
    refine w_step rfl ?_
    refine w_iload rfl ?_
    refine w_iload rfl ?_
    refine w_cne (by omega) (fun h6 => ?_) (fun h6 => ?_)
    · skip
      refine w_step rfl ?_
      refine w_push kc_0 ?_
      refine w_goto ?_
      refine w_step rfl ?_
      refine w_retI rfl ?_
      exact ⟨rfl, (by omega), (by omega)⟩
    refine w_push kc_1 ?_
    refine w_goto ?_
    refine w_step rfl ?_
    refine w_retI rfl ?_
    exact ⟨rfl, (by omega), (by omega)⟩
  · refine w_sw (n := 8) (tsw_at hs1 (by decide)) ?_
    refine w_step rfl ?_
    refine w_iload rfl ?_
    refine w_iload rfl ?_
    refine w_cge (by omega) (fun h7 => ?_) (fun h7 => ?_)
    · skip
      refine w_step rfl ?_
      refine w_push kc_0 ?_
      refine w_goto ?_
      refine w_step rfl ?_
      refine w_retI rfl ?_
      exact ⟨rfl, (by omega), (by omega)⟩
    refine w_push kc_1 ?_
    refine w_goto ?_
    refine w_step rfl ?_
    refine w_retI rfl ?_
    exact ⟨rfl, (by omega), (by omega)⟩
  · refine w_sw (n := 5) (tsw_at hs1 (by decide)) ?_
    refine w_step rfl ?_
    refine w_iload rfl ?_
    refine w_ieq (by omega) (fun h8 => ?_) (fun h8 => ?_)
    · skip
      refine w_step rfl ?_
      refine w_push kc_0 ?_
      refine w_goto ?_
      refine w_step rfl ?_
      refine w_retI rfl ?_
      exact ⟨rfl, (by omega), (by omega)⟩
    refine w_iload rfl ?_
    refine w_ieq (by omega) (fun h9 => ?_) (fun h9 => ?_)
    · skip
      refine w_step rfl ?_
      refine w_push kc_0 ?_
      refine w_goto ?_
      refine w_step rfl ?_
      refine w_retI rfl ?_
      exact ⟨rfl, (by omega), (by omega)⟩
    refine w_push kc_1 ?_
    refine w_goto ?_
    refine w_step rfl ?_
    refine w_retI rfl ?_
    exact ⟨rfl, (by omega), (by omega)⟩
  · refine w_sw (n := 1) (tsw_at hs1 (by decide)) ?_
    refine w_step rfl ?_
    refine w_iload rfl ?_
    refine w_ine (by omega) (fun h10 => ?_) (fun h10 => ?_)
    · skip
      refine w_step rfl ?_
      refine w_push kc_1 ?_
      refine w_goto ?_
      refine w_step rfl ?_
      refine w_retI rfl ?_
      exact ⟨rfl, (by omega), (by omega)⟩
    refine w_iload rfl ?_
    refine w_ieq (by omega) (fun h11 => ?_) (fun h11 => ?_)
    · skip
      refine w_step rfl ?_
      refine w_push kc_0 ?_
      refine w_goto ?_
      refine w_step rfl ?_
      refine w_retI rfl ?_
      exact ⟨rfl, (by omega), (by omega)⟩
    refine w_goto ?_
    refine w_step rfl ?_
    refine w_push kc_1 ?_
    refine w_goto ?_
    refine w_step rfl ?_
    refine w_retI rfl ?_
    exact ⟨rfl, (by omega), (by omega)⟩
  · refine w_sw (n := 20) (tsw_df (m := 8) rfl (by omega) (by omega)) ?_
    refine w_step rfl ?_
    refine w_iload rfl ?_
    refine w_ine (by omega) (fun h12 => ?_) (fun h12 => ?_)
    · skip
      refine w_step rfl ?_
      refine w_iload rfl ?_
      refine w_iload rfl ?_
      refine w_divG (by omega) (fun z13 hz13 hl13 hh13 => ?_)
      refine w_goto ?_
      refine w_step rfl ?_
      refine w_retI rfl ?_
      exact ⟨rfl, (by omega), (by omega)⟩
    refine w_push kc_0 ?_
    refine w_goto ?_
    refine w_step rfl ?_
    refine w_retI rfl ?_
    exact ⟨rfl, (by omega), (by omega)⟩
set_option maxRecDepth 100000 in
set_option maxHeartbeats 4000000 in
theorem c_X9_worksOut {d : Nat} {t : TS} {x : Int}  (ok : OK t) (q0 : WF t 69) (q1 : 0 ≤ x) (q2 : x < tA t 69 4) : CI (EX FU (d + 2)) 205 [.ref 68, .int (jI x)] (mk t) (fun z t' => OK t' ∧ Fr [(81, 100)] t t' ∧ (-2147483648 ≤ z) ∧ (z ≤ 2147483647)) := by
  refine CI_ent (d := d + 1) (Bk := bX9_worksOut) (nL := 6) rfl rfl rfl (Nat.le_of_ble_eq_true rfl) ?_
  show Rn _ 1000000 0 [some (.ref 68), some (.int (jI x)), none, none, none, none] [] _ _
  have fr : Fr [(81, 100)] t t := Fr.rf _ _
  have hn0 := (ok.a (ax_69 nr_1)).1
  have hn1 := (ok.a (ax_69 nr_1)).2
  have hx1 := (ok.a (ax_69 nr_4)).2
  obtain ⟨hm, hw⟩ := q0 x.toNat (by omega)
  generalize hF : (fun j : Nat => tA t 69 (117 + 96 * x.toNat + j)) = F at hw
  have hi : (89 + 2 * x).toNat = 89 + 2 * x.toNat := by omega
  refine w_step rfl ?_
  refine w_push kc_0 ?_
  refine w_istore (lv' := [some (.ref 68), some (.int (jI x)), some (.int (jI 0)), none, none, none]) rfl ?_
  refine w_aload rfl ?_
  refine w_getR (g_68_0 _) ?_
  refine w_push kc_89 ?_
  refine w_push kc_2 ?_
  refine w_iload rfl ?_
  refine w_mul ?_
  refine w_add ?_
  refine w_iald (i := ((89 + (2 * x))).toNat) (ai_69 _) (by omega) (by omega) (ax_69 (nr_T0 (s := x.toNat) (by omega))) ok (fun z1 hz1 hl1 hh1 => ?_)
  rw [hi] at hz1
  refine w_push kc_1000 ?_
  refine w_rem (by omega) ?_
  refine w_istore (lv' := [some (.ref 68), some (.int (jI x)), some (.int (jI 0)), some (.int (jI (z1 % 1000))), none, none]) rfl ?_
  refine w_push kc_0 ?_
  refine w_istore (lv' := [some (.ref 68), some (.int (jI x)), some (.int (jI 0)), some (.int (jI (z1 % 1000))), some (.int (jI 0)), none]) rfl ?_
  refine w_goto ?_
  have key1 : ∀ (n1 M1 : Nat) (top : Int) (k : Int) (o5 : Option Int) (t2 : TS), OK t2 → Fr [(81, 100)] t t2 → WF t2 69 → (0 ≤ k) → (k ≤ 96) → (top = depF F k.toNat) → (0 ≤ top) → (top ≤ k) → 97 - k < (n1 : Int) → 60 * n1 + (1000) ≤ M1 → Rn (bX9_worksOut (EX FU (d + 1))) M1 1 [some (.ref 68), some (.int (jI x)), some (.int (jI top)), some (.int (jI (z1 % 1000))), some (.int (jI k)), dv o5] [] (mk t2) (PI (fun z t' => OK t' ∧ Fr [(81, 100)] t t' ∧ (-2147483648 ≤ z) ∧ (z ≤ 2147483647))) := by
    intro n1
    induction n1 with
    | zero => intro M1 top k o5 t2 ok2 fr2 wf2 i1_0 i1_1 i1_2 i1_3 i1_4 v1 f1; exfalso; omega
    | succ n1 ih1 =>
      intro M1 top k o5 t2 ok2 fr2 wf2 i1_0 i1_1 i1_2 i1_3 i1_4 v1 f1
      obtain ⟨M1, rfl⟩ : ∃ m, M1 = m + 60 := ⟨M1 - 60, by omega⟩
      refine w_step rfl ?_
      refine w_iload rfl ?_
      refine w_iload rfl ?_
      refine w_cge (by omega) (fun h3 => ?_) (fun h3 => ?_)
      · skip
        refine w_step rfl ?_
        refine w_aload rfl ?_
        refine w_getR (g_68_24 _) ?_
        refine w_push kc_0 ?_
        refine w_iald (i := 0) (ai_81 _) (by omega) (by omega) (ae_81 _) ok2 (fun z4 hz4 hl4 hh4 => ?_)
        refine w_retI rfl ?_
        exact ⟨ok2, fr2, (by omega), (by omega)⟩
      refine w_aload rfl ?_
      refine w_getR (g_68_0 _) ?_
      refine w_push kc_117 ?_
      refine w_push kc_96 ?_
      refine w_iload rfl ?_
      refine w_mul ?_
      refine w_add ?_
      refine w_iload rfl ?_
      refine w_add ?_
      refine w_iald (i := (((117 + (96 * x)) + k)).toNat) (ai_69 _) (by omega) (by omega) (ax_69 (nr_C (by omega))) ok2 (fun z5 hz5 hl5 hh5 => ?_)
      have ef : z5 = F (k).toNat := by
        rw [hz5, fr2.2.1 69 (by simp), ← hF]
        congr 1
        omega
      have ed := depS F (k := k) i1_0
      have hw1 := hw k.toNat (by omega)
      refine w_istore (lv' := [some (.ref 68), some (.int (jI x)), some (.int (jI top)), some (.int (jI (z1 % 1000))), some (.int (jI k)), some (.int (jI z5))]) rfl ?_
      refine w_iload rfl ?_
      refine w_ilt (by omega) (fun h6 => ?_) (fun h6 => ?_)
      · skip
        refine w_step rfl ?_
        refine w_iload rfl ?_
        refine w_push kc_m10 ?_
        refine w_cne (by omega) (fun h7 => ?_) (fun h7 => ?_)
        · skip
          refine w_step rfl ?_
          refine w_iinc (lv' := [some (.ref 68), some (.int (jI x)), some (.int (jI (top + (-1)))), some (.int (jI (z1 % 1000))), some (.int (jI k)), some (.int (jI z5))]) kc_m1 rfl rfl ?_
          refine w_aload rfl ?_
          refine w_getR (g_68_24 _) ?_
          refine w_iload rfl ?_
          refine w_push kc_1 ?_
          refine w_sub ?_
          refine w_iload rfl ?_
          refine w_aload rfl ?_
          refine w_getR (g_68_24 _) ?_
          refine w_iload rfl ?_
          refine w_push kc_1 ?_
          refine w_sub ?_
          refine w_iald (i := (((top + (-1)) - 1)).toNat) (ai_81 _) (by omega) (by omega) (ae_81 _) ok2 (fun z8 hz8 hl8 hh8 => ?_)
          refine w_aload rfl ?_
          refine w_getR (g_68_24 _) ?_
          refine w_iload rfl ?_
          refine w_iald (i := ((top + (-1))).toNat) (ai_81 _) (by omega) (by omega) (ae_81 _) ok2 (fun z9 hz9 hl9 hh9 => ?_)
          refine w_callS3I rfl (c_X9_two ok2 (by omega) (by omega) (by omega) (by omega) (by omega) (by omega)) ?_
          rintro z10 t10 ⟨rfl, hp10_0, hp10_1⟩
          refine w_iast (i := (((top + (-1)) - 1)).toNat) (ai_81 _) rfl (by omega) (by omega) (ae_81 _) ok2 (by omega) (fun t11 ht11 ok11 => ?_)
          have fr11 := fr2.uA ht11 (by simp)
          have wf11 := wf2.uAo ht11 (by decide)
          refine w_goto ?_
          refine w_step rfl ?_
          refine w_iinc (lv' := [some (.ref 68), some (.int (jI x)), some (.int (jI (top + (-1)))), some (.int (jI (z1 % 1000))), some (.int (jI (k + 1))), some (.int (jI z5))]) kc_1 rfl rfl ?_
          refine w_goto ?_
          exact ih1 _ (top + (-1)) (k + 1) (some z5) t11 ok11 fr11 wf11 (by omega) (by omega) (by omega) (by omega) (by omega) (by omega) (by omega)
        refine w_aload rfl ?_
        refine w_getR (g_68_24 _) ?_
        refine w_iload rfl ?_
        refine w_push kc_1 ?_
        refine w_sub ?_
        refine w_aload rfl ?_
        refine w_getR (g_68_24 _) ?_
        refine w_iload rfl ?_
        refine w_push kc_1 ?_
        refine w_sub ?_
        refine w_iald (i := ((top - 1)).toNat) (ai_81 _) (by omega) (by omega) (ae_81 _) ok2 (fun z12 hz12 hl12 hh12 => ?_)
        refine w_ine (by omega) (fun h13 => ?_) (fun h13 => ?_)
        · skip
          refine w_step rfl ?_
          refine w_push kc_0 ?_
          refine w_goto ?_
          refine w_step rfl ?_
          refine w_iast (i := ((top - 1)).toNat) (ai_81 _) rfl (by omega) (by omega) (ae_81 _) ok2 (by omega) (fun t14 ht14 ok14 => ?_)
          have fr14 := fr2.uA ht14 (by simp)
          have wf14 := wf2.uAo ht14 (by decide)
          refine w_goto ?_
          refine w_step rfl ?_
          refine w_iinc (lv' := [some (.ref 68), some (.int (jI x)), some (.int (jI top)), some (.int (jI (z1 % 1000))), some (.int (jI (k + 1))), some (.int (jI z5))]) kc_1 rfl rfl ?_
          refine w_goto ?_
          exact ih1 _ top (k + 1) (some z5) t14 ok14 fr14 wf14 (by omega) (by omega) (by omega) (by omega) (by omega) (by omega) (by omega)
        refine w_push kc_1 ?_
        refine w_goto ?_
        refine w_step rfl ?_
        refine w_iast (i := ((top - 1)).toNat) (ai_81 _) rfl (by omega) (by omega) (ae_81 _) ok2 (by omega) (fun t15 ht15 ok15 => ?_)
        have fr15 := fr2.uA ht15 (by simp)
        have wf15 := wf2.uAo ht15 (by decide)
        refine w_goto ?_
        refine w_step rfl ?_
        refine w_iinc (lv' := [some (.ref 68), some (.int (jI x)), some (.int (jI top)), some (.int (jI (z1 % 1000))), some (.int (jI (k + 1))), some (.int (jI z5))]) kc_1 rfl rfl ?_
        refine w_goto ?_
        exact ih1 _ top (k + 1) (some z5) t15 ok15 fr15 wf15 (by omega) (by omega) (by omega) (by omega) (by omega) (by omega) (by omega)
      refine w_aload rfl ?_
      refine w_getR (g_68_24 _) ?_
      refine w_iload rfl ?_
      refine w_iload rfl ?_
      refine w_push kc_10000 ?_
      refine w_cge (by omega) (fun h16 => ?_) (fun h16 => ?_)
      · skip
        refine w_step rfl ?_
        refine w_aload rfl ?_
        refine w_getR (g_68_25 _) ?_
        refine w_iload rfl ?_
        refine w_push kc_10000 ?_
        refine w_sub ?_
        refine w_iald (i := ((z5 - 10000)).toNat) (ai_82 _) (by omega) (by omega) (ae_82 _) ok2 (fun z17 hz17 hl17 hh17 => ?_)
        refine w_goto ?_
        refine w_step rfl ?_
        refine w_iast (i := (top).toNat) (ai_81 _) rfl (by omega) (by omega) (ae_81 _) ok2 (by omega) (fun t18 ht18 ok18 => ?_)
        have fr18 := fr2.uA ht18 (by simp)
        have wf18 := wf2.uAo ht18 (by decide)
        refine w_iinc (lv' := [some (.ref 68), some (.int (jI x)), some (.int (jI (top + 1))), some (.int (jI (z1 % 1000))), some (.int (jI k)), some (.int (jI z5))]) kc_1 rfl rfl ?_
        refine w_goto ?_
        refine w_step rfl ?_
        refine w_iinc (lv' := [some (.ref 68), some (.int (jI x)), some (.int (jI (top + 1))), some (.int (jI (z1 % 1000))), some (.int (jI (k + 1))), some (.int (jI z5))]) kc_1 rfl rfl ?_
        refine w_goto ?_
        exact ih1 _ (top + 1) (k + 1) (some z5) t18 ok18 fr18 wf18 (by omega) (by omega) (by omega) (by omega) (by omega) (by omega) (by omega)
      refine w_iload rfl ?_
      refine w_goto ?_
      refine w_step rfl ?_
      refine w_iast (i := (top).toNat) (ai_81 _) rfl (by omega) (by omega) (ae_81 _) ok2 (by omega) (fun t19 ht19 ok19 => ?_)
      have fr19 := fr2.uA ht19 (by simp)
      have wf19 := wf2.uAo ht19 (by decide)
      refine w_iinc (lv' := [some (.ref 68), some (.int (jI x)), some (.int (jI (top + 1))), some (.int (jI (z1 % 1000))), some (.int (jI k)), some (.int (jI z5))]) kc_1 rfl rfl ?_
      refine w_goto ?_
      refine w_step rfl ?_
      refine w_iinc (lv' := [some (.ref 68), some (.int (jI x)), some (.int (jI (top + 1))), some (.int (jI (z1 % 1000))), some (.int (jI (k + 1))), some (.int (jI z5))]) kc_1 rfl rfl ?_
      refine w_goto ?_
      exact ih1 _ (top + 1) (k + 1) (some z5) t19 ok19 fr19 wf19 (by omega) (by omega) (by omega) (by omega) (by omega) (by omega) (by omega)
  exact key1 98 _ 0 0 none t ok fr q0 (by omega) (by omega) rfl (by omega) (by omega) (by omega) (by omega)
set_option maxRecDepth 100000 in
set_option maxHeartbeats 4000000 in
theorem c_X9_darkOf {d : Nat} {t : TS} {s p r : Int}  (ok : OK t) (q0 : WF t 69) (q1 : 0 ≤ s) (q2 : s ≤ 11) (q3 : 0 ≤ p) (q4 : p ≤ 6) (q5 : -2147483648 ≤ r) (q6 : r ≤ 2147483647) : CI (EX FU (d + 3)) 143 [.ref 68, .int (jI s), .int (jI p), .int (jI r)] (mk t) (fun z t' => OK t' ∧ Fr [(81, 100), (82, 100)] t t' ∧ (0 ≤ z) ∧ (z ≤ 99)) := by
  refine CI_ent (d := d + 2) (Bk := bX9_darkOf) (nL := 6) rfl rfl rfl (Nat.le_of_ble_eq_true rfl) ?_
  show Rn _ 1000000 0 [some (.ref 68), some (.int (jI s)), some (.int (jI p)), some (.int (jI r)), none, none] [] _ _
  have fr : Fr [(81, 100), (82, 100)] t t := Fr.rf _ _
  have hn0 := (ok.a (ax_69 nr_1)).1
  have hn1 := (ok.a (ax_69 nr_1)).2
  refine w_step rfl ?_
  refine w_aload rfl ?_
  refine w_push kc_0 ?_
  refine w_callV1I (oj_68 _).choose_spec rfl (c_X9_counts ok (by omega) (by omega)) ?_
  rintro z1 t1 ⟨rfl, hp1_0, hp1_1, hp1_2⟩
  refine w_istore (lv' := [some (.ref 68), some (.int (jI s)), some (.int (jI p)), some (.int (jI r)), some (.int (jI z1)), none]) rfl ?_
  refine w_aload rfl ?_
  refine w_getR (g_68_25 _) ?_
  refine w_push kc_0 ?_
  refine w_iload rfl ?_
  refine w_iast (i := 0) (ai_82 _) rfl (by omega) (by omega) (ae_82 _) ok (by omega) (fun t2 ht2 ok2 => ?_)
  have fr2 := fr.uA ht2 (by simp)
  have wf2 := q0.uAo ht2 (by decide)
  refine w_aload rfl ?_
  refine w_getR (g_68_25 _) ?_
  refine w_push kc_1 ?_
  refine w_iload rfl ?_
  refine w_iast (i := 1) (ai_82 _) rfl (by omega) (by omega) (ae_82 _) ok2 (by omega) (fun t3 ht3 ok3 => ?_)
  have fr3 := fr2.uA ht3 (by simp)
  have wf3 := wf2.uAo ht3 (by decide)
  refine w_aload rfl ?_
  refine w_getR (g_68_25 _) ?_
  refine w_push kc_2 ?_
  refine w_aload rfl ?_
  refine w_iload rfl ?_
  refine w_callV1I (oj_68 _).choose_spec rfl (c_X9_heavyOf ok3 (by omega) (by omega)) ?_
  rintro z4 t4 ⟨rfl, hp4_0, hp4_1, hp4_2⟩
  refine w_iast (i := 2) (ai_82 _) rfl (by omega) (by omega) (ae_82 _) ok3 (by omega) (fun t5 ht5 ok5 => ?_)
  have fr5 := fr3.uA ht5 (by simp)
  have wf5 := wf3.uAo ht5 (by decide)
  refine w_iload rfl ?_
  refine w_ige (by omega) (fun h6 => ?_) (fun h6 => ?_)
  · skip
    refine w_step rfl ?_
    refine w_aload rfl ?_
    refine w_iload rfl ?_
    refine w_callV1I (oj_68 _).choose_spec rfl (c_X9_worksOut ok5 wf5 (by omega) (by have h4 := fr5.2.1 69 (by simp) 4; omega)) ?_
    rintro z7 t7 ⟨ok7, fq7, hp7_0, hp7_1⟩
    have fr7 := fr5.then fq7 (by simp)
    have wf7 := wf5.fr fq7 (by simp)
    refine w_push kc_0 ?_
    refine w_push kc_99 ?_
    refine w_callS3I rfl (c_X9_within ok7 (by omega) (by omega) (by omega) (by omega) (by omega) (by omega) (by omega)) ?_
    rintro z8 t8 ⟨rfl, hp8_0⟩
    refine w_goto ?_
    refine w_step rfl ?_
    refine w_istore (lv' := [some (.ref 68), some (.int (jI s)), some (.int (jI p)), some (.int (jI r)), some (.int (jI z1)), some (.int (jI z8))]) rfl ?_
    refine w_aload rfl ?_
    refine w_iload rfl ?_
    refine w_push kc_0 ?_
    refine w_callV2I (oj_68 _).choose_spec rfl (c_X9_of ok7 (by omega) (by omega) (by omega) (by omega)) ?_
    rintro z9 t9 ⟨rfl, hp9_0, hp9_1, hp9_2⟩
    have hr9 := of_r0 (s := s) ok7 (by omega)
    have hs10 : z9 = 1 ∨ z9 = 2 ∨ z9 = 3 ∨ z9 = 4 ∨ z9 = 5 ∨ (z9 < 1 ∨ 1 + 5 ≤ z9) := (by omega)
    rcases hs10 with hs10 | hs10 | hs10 | hs10 | hs10 | hs10
    · refine w_sw (n := 3) (tsw_at hs10 (by decide)) ?_
      refine w_step rfl ?_
      refine w_iload rfl ?_
      refine w_push kc_10 ?_
      refine w_sub ?_
      refine w_push kc_0 ?_
      refine w_push kc_99 ?_
      refine w_callS3I rfl (c_X9_within ok7 (by omega) (by omega) (by omega) (by omega) (by omega) (by omega) (by omega)) ?_
      rintro z11 t11 ⟨rfl, hp11_0⟩
      refine w_retI rfl ?_
      exact ⟨ok7, fr7, (by omega), (by omega)⟩
    · refine w_sw (n := 4) (tsw_at hs10 (by decide)) ?_
      refine w_step rfl ?_
      refine w_push kc_99 ?_
      refine w_iload rfl ?_
      refine w_sub ?_
      refine w_retI rfl ?_
      exact ⟨ok7, fr7, (by omega), (by omega)⟩
    · refine w_sw (n := 5) (tsw_at hs10 (by decide)) ?_
      refine w_step rfl ?_
      refine w_iload rfl ?_
      refine w_push kc_10 ?_
      refine w_sub ?_
      refine w_push kc_0 ?_
      refine w_push kc_99 ?_
      refine w_callS3I rfl (c_X9_within ok7 (by omega) (by omega) (by omega) (by omega) (by omega) (by omega) (by omega)) ?_
      rintro z12 t12 ⟨rfl, hp12_0⟩
      refine w_push kc_60 ?_
      refine w_add ?_
      refine w_push kc_2 ?_
      refine w_div (by omega) ?_
      refine w_retI rfl ?_
      exact ⟨ok7, fr7, (by omega), (by omega)⟩
    · refine w_sw (n := 6) (tsw_at hs10 (by decide)) ?_
      refine w_step rfl ?_
      refine w_push kc_104 ?_
      refine w_iload rfl ?_
      refine w_sub ?_
      refine w_push kc_0 ?_
      refine w_push kc_99 ?_
      refine w_callS3I rfl (c_X9_within ok7 (by omega) (by omega) (by omega) (by omega) (by omega) (by omega) (by omega)) ?_
      rintro z13 t13 ⟨rfl, hp13_0⟩
      refine w_retI rfl ?_
      exact ⟨ok7, fr7, (by omega), (by omega)⟩
    · refine w_sw (n := 7) (tsw_at hs10 (by decide)) ?_
      refine w_step rfl ?_
      refine w_push kc_0 ?_
      refine w_retI rfl ?_
      exact ⟨ok7, fr7, (by omega), (by omega)⟩
    · refine w_sw (n := 8) (tsw_df (m := 5) rfl (by omega) (by omega)) ?_
      refine w_step rfl ?_
      refine w_iload rfl ?_
      refine w_retI rfl ?_
      exact ⟨ok7, fr7, (by omega), (by omega)⟩
  refine w_push kc_15 ?_
  refine w_iload rfl ?_
  refine w_mul ?_
  refine w_goto ?_
  refine w_step rfl ?_
  refine w_istore (lv' := [some (.ref 68), some (.int (jI s)), some (.int (jI p)), some (.int (jI r)), some (.int (jI z1)), some (.int (jI (15 * p)))]) rfl ?_
  refine w_aload rfl ?_
  refine w_iload rfl ?_
  refine w_push kc_0 ?_
  refine w_callV2I (oj_68 _).choose_spec rfl (c_X9_of ok5 (by omega) (by omega) (by omega) (by omega)) ?_
  rintro z14 t14 ⟨rfl, hp14_0, hp14_1, hp14_2⟩
  have hr14 := of_r0 (s := s) ok5 (by omega)
  have hs15 : z14 = 1 ∨ z14 = 2 ∨ z14 = 3 ∨ z14 = 4 ∨ z14 = 5 ∨ (z14 < 1 ∨ 1 + 5 ≤ z14) := (by omega)
  rcases hs15 with hs15 | hs15 | hs15 | hs15 | hs15 | hs15
  · refine w_sw (n := 3) (tsw_at hs15 (by decide)) ?_
    refine w_step rfl ?_
    refine w_iload rfl ?_
    refine w_push kc_10 ?_
    refine w_sub ?_
    refine w_push kc_0 ?_
    refine w_push kc_99 ?_
    refine w_callS3I rfl (c_X9_within ok5 (by omega) (by omega) (by omega) (by omega) (by omega) (by omega) (by omega)) ?_
    rintro z16 t16 ⟨rfl, hp16_0⟩
    refine w_retI rfl ?_
    exact ⟨ok5, fr5, (by omega), (by omega)⟩
  · refine w_sw (n := 4) (tsw_at hs15 (by decide)) ?_
    refine w_step rfl ?_
    refine w_push kc_99 ?_
    refine w_iload rfl ?_
    refine w_sub ?_
    refine w_retI rfl ?_
    exact ⟨ok5, fr5, (by omega), (by omega)⟩
  · refine w_sw (n := 5) (tsw_at hs15 (by decide)) ?_
    refine w_step rfl ?_
    refine w_iload rfl ?_
    refine w_push kc_10 ?_
    refine w_sub ?_
    refine w_push kc_0 ?_
    refine w_push kc_99 ?_
    refine w_callS3I rfl (c_X9_within ok5 (by omega) (by omega) (by omega) (by omega) (by omega) (by omega) (by omega)) ?_
    rintro z17 t17 ⟨rfl, hp17_0⟩
    refine w_push kc_60 ?_
    refine w_add ?_
    refine w_push kc_2 ?_
    refine w_div (by omega) ?_
    refine w_retI rfl ?_
    exact ⟨ok5, fr5, (by omega), (by omega)⟩
  · refine w_sw (n := 6) (tsw_at hs15 (by decide)) ?_
    refine w_step rfl ?_
    refine w_push kc_104 ?_
    refine w_iload rfl ?_
    refine w_sub ?_
    refine w_push kc_0 ?_
    refine w_push kc_99 ?_
    refine w_callS3I rfl (c_X9_within ok5 (by omega) (by omega) (by omega) (by omega) (by omega) (by omega) (by omega)) ?_
    rintro z18 t18 ⟨rfl, hp18_0⟩
    refine w_retI rfl ?_
    exact ⟨ok5, fr5, (by omega), (by omega)⟩
  · refine w_sw (n := 7) (tsw_at hs15 (by decide)) ?_
    refine w_step rfl ?_
    refine w_push kc_0 ?_
    refine w_retI rfl ?_
    exact ⟨ok5, fr5, (by omega), (by omega)⟩
  · refine w_sw (n := 8) (tsw_df (m := 5) rfl (by omega) (by omega)) ?_
    refine w_step rfl ?_
    refine w_iload rfl ?_
    refine w_retI rfl ?_
    exact ⟨ok5, fr5, (by omega), (by omega)⟩
set_option maxRecDepth 100000 in
set_option maxHeartbeats 4000000 in
theorem c_X9_offOf {d : Nat} {t : TS} {s p u : Int}  (ok : OK t) (q0 : WF t 69) (q1 : 0 ≤ s) (q2 : s ≤ 11) (q3 : 0 ≤ p) (q4 : p ≤ 11) (q5 : 0 ≤ u) (q6 : u ≤ 1) : CI (EX FU (d + 4)) 144 [.ref 68, .int (jI s), .int (jI p), .int (jI u)] (mk t) (fun z t' => OK t' ∧ Fr [(81, 100), (82, 100)] t t' ∧ (0 ≤ z) ∧ (z ≤ 198)) := by
  refine CI_ent (d := d + 3) (Bk := bX9_offOf) (nL := 6) rfl rfl rfl (Nat.le_of_ble_eq_true rfl) ?_
  show Rn _ 1000000 0 [some (.ref 68), some (.int (jI s)), some (.int (jI p)), some (.int (jI u)), none, none] [] _ _
  have fr : Fr [(81, 100), (82, 100)] t t := Fr.rf _ _
  have hn0 := (ok.a (ax_69 nr_1)).1
  have hn1 := (ok.a (ax_69 nr_1)).2
  refine w_step rfl ?_
  refine w_aload rfl ?_
  refine w_iload rfl ?_
  refine w_aload rfl ?_
  refine w_iload rfl ?_
  refine w_push kc_0 ?_
  refine w_iload rfl ?_
  refine w_callV3I (oj_68 _).choose_spec rfl (c_X9_spotsOf ok (by omega) (by omega) (by omega) (by omega) (by omega) (by omega)) ?_
  rintro z1 t1 ⟨rfl, hp1_0, hp1_1⟩
  refine w_iload rfl ?_
  refine w_push kc_3 ?_
  refine w_div (by omega) ?_
  refine w_callV3I (oj_68 _).choose_spec rfl (c_X9_darkOf ok q0 (by omega) (by omega) (by omega) (by omega) (by omega) (by omega)) ?_
  rintro z2 t2 ⟨ok2, fq2, hp2_0, hp2_1⟩
  have fr2 := fr.then fq2 (by simp)
  have wf2 := q0.fr fq2 (by simp)
  refine w_istore (lv' := [some (.ref 68), some (.int (jI s)), some (.int (jI p)), some (.int (jI u)), some (.int (jI z2)), none]) rfl ?_
  refine w_aload rfl ?_
  refine w_iload rfl ?_
  refine w_aload rfl ?_
  refine w_iload rfl ?_
  refine w_push kc_1 ?_
  refine w_iload rfl ?_
  refine w_callV3I (oj_68 _).choose_spec rfl (c_X9_spotsOf ok2 (by omega) (by omega) (by omega) (by omega) (by omega) (by omega)) ?_
  rintro z3 t3 ⟨rfl, hp3_0, hp3_1⟩
  refine w_iload rfl ?_
  refine w_push kc_3 ?_
  refine w_div (by omega) ?_
  refine w_callV3I (oj_68 _).choose_spec rfl (c_X9_darkOf ok2 wf2 (by omega) (by omega) (by omega) (by omega) (by omega) (by omega)) ?_
  rintro z4 t4 ⟨ok4, fq4, hp4_0, hp4_1⟩
  have fr4 := fr2.then fq4 (by simp)
  have wf4 := wf2.fr fq4 (by simp)
  refine w_istore (lv' := [some (.ref 68), some (.int (jI s)), some (.int (jI p)), some (.int (jI u)), some (.int (jI z2)), some (.int (jI z4))]) rfl ?_
  refine w_iload rfl ?_
  refine w_aload rfl ?_
  refine w_getR (g_68_0 _) ?_
  refine w_push kc_5 ?_
  refine w_push kc_2 ?_
  refine w_iload rfl ?_
  refine w_mul ?_
  refine w_add ?_
  refine w_iald (i := ((5 + (2 * p))).toNat) (ai_69 _) (by omega) (by omega) (ax_69 (nr_W (by omega))) ok4 (fun z5 hz5 hl5 hh5 => ?_)
  refine w_callS2I rfl (c_X9_apart ok4 (by omega) (by omega) (by omega) (by omega)) ?_
  rintro z6 t6 ⟨rfl, hp6_0⟩
  refine w_iload rfl ?_
  refine w_aload rfl ?_
  refine w_getR (g_68_0 _) ?_
  refine w_push kc_5 ?_
  refine w_push kc_2 ?_
  refine w_iload rfl ?_
  refine w_mul ?_
  refine w_add ?_
  refine w_push kc_1 ?_
  refine w_add ?_
  refine w_iald (i := (((5 + (2 * p)) + 1)).toNat) (ai_69 _) (by omega) (by omega) (ax_69 (nr_W (by omega))) ok4 (fun z7 hz7 hl7 hh7 => ?_)
  refine w_callS2I rfl (c_X9_apart ok4 (by omega) (by omega) (by omega) (by omega)) ?_
  rintro z8 t8 ⟨rfl, hp8_0⟩
  refine w_add ?_
  refine w_retI rfl ?_
  exact ⟨ok4, fr4, (by omega), (by omega)⟩
