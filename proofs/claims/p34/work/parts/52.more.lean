/-! ===== more rules: dead locals, bits, texts' objects ===== -/
def dv (o : Option Int) : Option Value := match o with
  | none => none
  | some z => some (.int (jI z))
def ush (z : Int32) : Int32 := (z.toUInt32 >>> ((8 : Int32).toUInt32 &&& Int32.toUInt32 31)).toInt32
theorem nI_self (z : Int32) : nI z.toBitVec.toNat = z := by
  apply Int32.toBitVec_inj.mp
  show (Int32.ofNat z.toBitVec.toNat).toBitVec = _
  rw [Int32.toBitVec_ofNat']
  exact BitVec.ofNat_toNat ..
theorem nIt_ {n : Nat} (h : n < 2147483648) : (nI n).toInt = n := by
  rw [← jI_nat, jI_toInt ⟨by omega, by omega⟩]
theorem ush_nI (z : Int32) : ∃ j : Nat, j < 2 ^ 24 ∧ ush z = nI j := by
  refine ⟨z.toBitVec.toNat / 2 ^ 8, ?_, ?_⟩
  · have := z.toBitVec.isLt
    omega
  · have h := pk_ushrN (n := z.toBitVec.toNat) z.toBitVec.isLt 8 8 (by decide)
    rw [nI_self] at h
    exact h
theorem ah_ushr8 {x z : Int} (h : z = fZ (fun x y => (x.toUInt32 >>> (y.toUInt32 &&& Int32.toUInt32 31)).toInt32) x 8) : 0 ≤ z ∧ z < 16777216 := by
  obtain ⟨j, hj, e⟩ := ush_nI (jI x)
  have e2 : z = (ush (jI x)).toInt := h
  rw [e, nIt_ (by omega)] at e2
  omega
theorem and_rng (x : Int32) {m : Nat} (hm : m < 2147483648) : ∃ j : Nat, j ≤ m ∧ x &&& nI m = nI j := by
  refine ⟨x.toBitVec.toNat &&& m, Nat.and_le_right, ?_⟩
  have h1 : x.toBitVec.toNat &&& m ≤ m := Nat.and_le_right
  apply Int32.toBitVec_inj.mp
  apply BitVec.eq_of_toNat_eq
  rw [Int32.toBitVec_and, BitVec.toNat_and]
  show x.toBitVec.toNat &&& (Int32.ofNat m).toBitVec.toNat = (Int32.ofNat (x.toBitVec.toNat &&& m)).toBitVec.toNat
  rw [Int32.toBitVec_ofNat', Int32.toBitVec_ofNat', BitVec.toNat_ofNat, BitVec.toNat_ofNat, Nat.mod_eq_of_lt (by omega), Nat.mod_eq_of_lt (by omega)]
theorem ah_and {x z : Int} {m : Nat} (hm : m < 2147483648) (h : z = (jI x &&& nI m).toInt) : 0 ≤ z ∧ z ≤ m := by
  obtain ⟨j, hj, e⟩ := and_rng (jI x) hm
  rw [e, nIt_ (by omega)] at h
  omega
theorem ah_and255 {x z : Int} (h : z = fZ (fun x y => x &&& y) x 255) : 0 ≤ z ∧ z ≤ 255 := ah_and (m := 255) (by decide) h
theorem ah_and1 {x z : Int} (h : z = fZ (fun x y => x &&& y) x 1) : 0 ≤ z ∧ z ≤ 1 := ah_and (m := 1) (by decide) h
theorem nar_bool {z : Int} (h : z = 0 ∨ z = 1) : vp_nar .boolean (jI z) = jI z := by
  rcases h with rfl | rfl <;> decide
def abv (x : Int) : Int := if x = 3 then 1 else if x = 4 then 2 else 0
/-! texts -/
def tx (t : TS) (j : Nat) : TX := (tD t).getD j (0, 0, [], [], [])
theorem tx_get {t : TS} {j : Nat} (h : j < (tD t).length) : (tD t)[j]? = some (tx t j) := by
  unfold tx
  rw [List.getD_eq_getElem?_getD, List.getElem?_eq_getElem h]
  rfl
theorem tx_ok {t : TS} {j : Nat} (ok : OK t) (h : j < (tD t).length) : TXok (tx t j) := ok.2.2.2 _ (List.mem_of_getElem? (tx_get h))
theorem quad_get : ∀ (D : List TX) (p j : Nat) (x : TX), D[j]? = some x → (quad p D)[4 * j]? = some (.inl (5, [.int (jI x.1), .int (jI x.2.1), .ref (p + 4 * j + 1), .ref (p + 4 * j + 2), .ref (p + 4 * j + 3)])) ∧ (quad p D)[4 * j + 1]? = some (.inr (.inl (0, x.2.2.1))) ∧ (quad p D)[4 * j + 2]? = some (.inr (.inl (0, x.2.2.2.1))) ∧ (quad p D)[4 * j + 3]? = some (.inr (.inl (0, x.2.2.2.2)))
  | [], _, _, _, h => by simp at h
  | y :: r, p, 0, x, h => by
    simp at h
    subst h
    exact ⟨rfl, rfl, rfl, rfl⟩
  | y :: r, p, j + 1, x, h => by
    have ih := quad_get r (p + 4) j x (by simpa using h)
    have e : p + 4 + 4 * j = p + 4 * (j + 1) := by omega
    rw [e] at ih
    exact ih
theorem quad_set : ∀ (D : List TX) (p j : Nat) (x : TX) (ys : List Int32), D[j]? = some x → (quad p D).set (4 * j + 3) (.inr (.inl (0, ys))) = quad p (D.set j (x.1, x.2.1, x.2.2.1, x.2.2.2.1, ys))
  | [], _, _, _, _, h => by simp at h
  | y :: r, p, 0, x, ys, h => by
    simp at h
    subst h
    rfl
  | y :: r, p, j + 1, x, ys, h => by
    have ih := quad_set r (p + 4) j x ys (by simpa using h)
    show _ :: _ :: _ :: _ :: ((quad (p + 4) r).set (4 * j + 3) _) = _
    rw [ih]
    rfl
theorem mkW_get (s : ST) (k : Nat) : (mkW s)[92 + k]? = s.2.2.2.2[k]? := by
  rw [Nat.add_comm]
  rfl
theorem mkW_set (s : ST) (k : Nat) (c : ab_C) : (mkW s).set (92 + k) c = mkW (sD s (s.2.2.2.2.set k c)) := by
  rw [Nat.add_comm]
  rfl
def uX (t : TS) (j i : Nat) (z : Int) : TS := uD t ((tD t).set j ((tx t j).1, (tx t j).2.1, (tx t j).2.2.1, (tx t j).2.2.2.1, (tx t j).2.2.2.2.set i (jI z)))
theorem OK.uX {t : TS} {j : Nat} (ok : OK t) (hj : j < (tD t).length) (i : Nat) (z : Int) : OK (uX t j i z) := by
  have h1 := tx_ok ok hj
  refine ⟨ok.1, ok.2.1, fun c i' q hq => ?_, fun x hx => ?_⟩
  · obtain ⟨j', h2, h3⟩ := ok.2.2.1 c i' q hq
    refine ⟨j', ?_, h3⟩
    show j' < ((tD t).set j _).length
    rw [List.length_set]
    exact h2
  · rcases List.mem_or_eq_of_mem_set (show x ∈ (tD t).set j _ from hx) with h | h
    · exact ok.2.2.2 x h
    · subst h
      refine ⟨h1.1, h1.2.1, h1.2.2.1, h1.2.2.2.1, ?_⟩
      show ((tx t j).2.2.2.2.set i (jI z)).length ≤ 96
      rw [List.length_set]
      exact h1.2.2.2.2
theorem Fr.uX {S : List (Nat × Nat)} {t u v : TS} {j i : Nat} {z : Int} (h : Fr S t u) (hj : j < (tD u).length) (e : v = uX u j i z) : Fr S t v := by
  subst e
  refine h.trans ⟨fun _ _ _ => rfl, fun _ _ _ => rfl, fun _ _ _ => rfl, fun _ => rfl, ?_⟩
  show ((tD u).set j _).map Dhd = _
  rw [List.map_set]
  apply List.ext_getElem?
  intro k
  rw [List.getElem?_set]
  by_cases e : j = k
  · subst e
    rw [if_pos rfl, List.length_map, if_pos hj, List.getElem?_map, tx_get hj]
    simp [Dhd]
  · rw [if_neg e]
theorem Fr.txh {S : List (Nat × Nat)} {t u : TS} (h : Fr S t u) (j : Nat) : Dhd (tx u j) = Dhd (tx t j) := by
  have h1 : ((tD u).map Dhd)[j]? = ((tD t).map Dhd)[j]? := by rw [h.2.2.2.2]
  rw [List.getElem?_map, List.getElem?_map] at h1
  show Dhd ((tD u).getD j _) = Dhd ((tD t).getD j _)
  rw [List.getD_eq_getElem?_getD, List.getD_eq_getElem?_getD]
  revert h1
  cases (tD u)[j]? <;> cases (tD t)[j]? <;> intro h1 <;> simp_all
theorem Fr.x1 {S : List (Nat × Nat)} {t u : TS} (h : Fr S t u) (j : Nat) : (tx u j).2.2.1 = (tx t j).2.2.1 := congrArg (fun q => q.2.2.1) (h.txh j)
theorem Fr.x2 {S : List (Nat × Nat)} {t u : TS} (h : Fr S t u) (j : Nat) : (tx u j).2.2.2.1 = (tx t j).2.2.2.1 := congrArg (fun q => q.2.2.2.1) (h.txh j)
theorem Fr.x1l {S : List (Nat × Nat)} {t u : TS} (h : Fr S t u) (j : Nat) : (tx u j).2.2.1.length = (tx t j).2.2.1.length := by rw [h.x1 j]
theorem Fr.x2l {S : List (Nat × Nat)} {t u : TS} (h : Fr S t u) (j : Nat) : (tx u j).2.2.2.1.length = (tx t j).2.2.2.1.length := by rw [h.x2 j]
theorem Fr.x3l {S : List (Nat × Nat)} {t u : TS} (h : Fr S t u) (j : Nat) : (tx u j).2.2.2.2.length = (tx t j).2.2.2.2.length := congrArg (fun q => q.2.2.2.2) (h.txh j)
section WX
variable {B : List ab_K} {N : Nat} {k : ab_K} {lv lv' : ab_L} {st : List Value} {w : ab_W} {t : TS} {P : Option Value → ab_W → Prop} {tg i j : Nat} {x y z : Int}
theorem mkX (hj : j < (tD t).length) : (mk t)[92 + 4 * j]? = some (.inl (5, [.int (jI (tx t j).1), .int (jI (tx t j).2.1), .ref (92 + 4 * j + 1), .ref (92 + 4 * j + 2), .ref (92 + 4 * j + 3)])) ∧ (mk t)[92 + 4 * j + 1]? = some (.inr (.inl (0, (tx t j).2.2.1))) ∧ (mk t)[92 + 4 * j + 2]? = some (.inr (.inl (0, (tx t j).2.2.2.1))) ∧ (mk t)[92 + 4 * j + 3]? = some (.inr (.inl (0, (tx t j).2.2.2.2))) := by
  obtain ⟨h1, h2, h3, h4⟩ := quad_get (tD t) 92 j (tx t j) (tx_get hj)
  refine ⟨(mkW_get (sW t) (4 * j)).trans h1, ?_, ?_, ?_⟩
  · rw [Nat.add_assoc]; exact (mkW_get (sW t) (4 * j + 1)).trans h2
  · rw [Nat.add_assoc]; exact (mkW_get (sW t) (4 * j + 2)).trans h3
  · rw [Nat.add_assoc]; exact (mkW_get (sW t) (4 * j + 3)).trans h4
theorem ojX (hj : j < (tD t).length) : ∃ fs, (mk t)[92 + 4 * j]? = some (.inl (5, fs)) := ⟨_, (mkX hj).1⟩
theorem gfX {f : Nat} {v : Value} (hj : j < (tD t).length) (h : [Value.int (jI (tx t j).1), .int (jI (tx t j).2.1), .ref (92 + 4 * j + 1), .ref (92 + 4 * j + 2), .ref (92 + 4 * j + 3)][f]? = some v) : ab_gf (mk t) (92 + 4 * j) 5 f = some v := by
  unfold ab_gf
  rw [(mkX hj).1]
  simp [h]
theorem iaX1 (hj : j < (tD t).length) : ab_ia (mk t) (92 + 4 * j + 1) 0 = some (tx t j).2.2.1 := by
  unfold ab_ia
  rw [(mkX hj).2.1]
  simp
theorem iaX2 (hj : j < (tD t).length) : ab_ia (mk t) (92 + 4 * j + 2) 0 = some (tx t j).2.2.2.1 := by
  unfold ab_ia
  rw [(mkX hj).2.2.1]
  simp
theorem iaX3 (hj : j < (tD t).length) : ab_ia (mk t) (92 + 4 * j + 3) 0 = some (tx t j).2.2.2.2 := by
  unfold ab_ia
  rw [(mkX hj).2.2.2]
  simp
theorem w_getX0 (hj : j < (tD t).length) (ok : OK t) (h : ∀ z, z = (tx t j).1 → 0 ≤ z → z ≤ 2 → Rp B N k lv (.int (jI z) :: st) (mk t) P) : Rp B N (o_getf 5 0 k) lv (.ref (92 + 4 * j) :: st) (mk t) P := Rp_map (fun _ => rb_getf (gfX hj rfl)) (h _ rfl (tx_ok ok hj).1.1 (tx_ok ok hj).1.2)
theorem w_getX1 (hj : j < (tD t).length) (ok : OK t) (h : ∀ z, z = (tx t j).2.1 → 0 ≤ z → z ≤ 96 → Rp B N k lv (.int (jI z) :: st) (mk t) P) : Rp B N (o_getf 5 1 k) lv (.ref (92 + 4 * j) :: st) (mk t) P := Rp_map (fun _ => rb_getf (gfX hj rfl)) (h _ rfl (tx_ok ok hj).2.1.1 (tx_ok ok hj).2.1.2)
theorem w_getX2 (hj : j < (tD t).length) (h : Rp B N k lv (.ref (92 + 4 * j + 1) :: st) (mk t) P) : Rp B N (o_getf 5 2 k) lv (.ref (92 + 4 * j) :: st) (mk t) P := Rp_map (fun _ => rb_getf (gfX hj rfl)) h
theorem w_getX3 (hj : j < (tD t).length) (h : Rp B N k lv (.ref (92 + 4 * j + 2) :: st) (mk t) P) : Rp B N (o_getf 5 3 k) lv (.ref (92 + 4 * j) :: st) (mk t) P := Rp_map (fun _ => rb_getf (gfX hj rfl)) h
theorem w_getX4 (hj : j < (tD t).length) (h : Rp B N k lv (.ref (92 + 4 * j + 3) :: st) (mk t) P) : Rp B N (o_getf 5 4 k) lv (.ref (92 + 4 * j) :: st) (mk t) P := Rp_map (fun _ => rb_getf (gfX hj rfl)) h
theorem w_lenG {c n : Nat} {xs : List Int32} (hA : ab_ia w c 0 = some xs) (hn : xs.length = n) (h : Rp B N k lv (.int (jI (n : Int)) :: st) w P) : Rp B N (o_alenI 0 k) lv (.ref c :: st) w P := by
  refine Rp_map (fun _ => rb_alenL hA ?_) h
  rw [hn, jI_nat]
  rfl
theorem w_aldG {c : Nat} {xs : List Int32} (hA : ab_ia w c 0 = some xs) (hx : x = (i : Int)) (hi : i < xs.length) (hn : xs.length ≤ 5000) (h : ∀ z, z = (xs.getD i 0).toInt → -2147483648 ≤ z → z ≤ 2147483647 → Rp B N k lv (.int (jI z) :: st) w P) : Rp B N (o_iald 0 k) lv (.int (jI x) :: .ref c :: st) w P := by
  have hr : jr x := ⟨by omega, by omega⟩
  have h1 := Int32.le_toInt (xs.getD i 0)
  have h2 := Int32.toInt_lt (xs.getD i 0)
  refine Rp_map (fun _ => rb_iald hA (jI_nn (by omega) hr) (x := jI (xs.getD i 0).toInt) ?_) (h _ rfl (by omega) (by omega))
  rw [jI_clamp (by omega) hr, show x.toNat = i by omega, jI_self, List.getD_eq_getElem?_getD, List.getElem?_eq_getElem hi]
  rfl
theorem w_astX (hj : j < (tD t).length) (ok : OK t) (hx : x = (i : Int)) (hi : i < (tx t j).2.2.2.2.length) (h : ∀ t', t' = uX t j i z → OK t' → Rp B N k lv st (mk t') P) : Rp B N (o_iast 0 (fun x => x) k) lv (.int (jI z) :: .int (jI x) :: .ref (92 + 4 * j + 3) :: st) (mk t) P := by
  have h5 := (tx_ok ok hj).2.2.2.2
  have hr : jr x := ⟨by omega, by omega⟩
  refine Rp_map (fun _ => rb_iast (iaX3 hj) (jI_nn (by omega) hr) ?_ ?_) (h _ rfl (ok.uX hj i z))
  · rw [jI_clamp (by omega) hr]
    omega
  · rw [jI_clamp (by omega) hr, show x.toNat = i by omega, Nat.add_assoc]
    refine (mkW_set (sW t) (4 * j + 3) _).trans ?_
    refine congrArg mkW ?_
    show sD (sW t) ((quad 92 (tD t)).set _ _) = _
    rw [quad_set (tD t) 92 j (tx t j) _ (tx_get hj)]
    rfl
theorem w_above (hx : 0 ≤ x ∧ x ≤ 5) (h : ∀ z, z = abv x → 0 ≤ z → z ≤ 2 → Rp B N k lv (.int (jI z) :: st) w P) : Rp B N (o_xald 0 ab_above k) lv (.int (jI x) :: .ref (1000000 + 0) :: st) w P := by
  have hr : jr x := ⟨by omega, by omega⟩
  have h6 : x = 0 ∨ x = 1 ∨ x = 2 ∨ x = 3 ∨ x = 4 ∨ x = 5 := by omega
  refine Rp_map (fun _ => rb_xald (jI_nn (by omega) hr) (x := jI (abv x)) ?_) (h _ rfl ?_ ?_)
  · rcases h6 with rfl | rfl | rfl | rfl | rfl | rfl <;> decide
  · rcases h6 with rfl | rfl | rfl | rfl | rfl | rfl <;> decide
  · rcases h6 with rfl | rfl | rfl | rfl | rfl | rfl <;> decide
theorem w_putN {q : Nat} (ok : OK t) (h : ∀ t', t' = uN t q → OK t' → Rp B N k lv st (mk t') P) : Rp B N (o_putA 0 6 k) lv (.ref q :: .ref 39 :: st) (mk t) P := Rp_map (fun _ => rb_putA (pf_names (sW t) q)) (h _ rfl (ok.uN q))
theorem wtT' {b : Nat} (hb : isT b) (t : TS) (rs : List (Option Nat)) : (mk t).set (b + 9) (.inr (.inr (5, rs))) = mkW (sT (sW t) (b + 9) rs) := wtT hb (sW t) rs
theorem w_aastN {c : Nat} (hA : ab_ra (mk t) c 5 = some (rowT (tT t c))) (hW : ∀ rs, (mk t).set c (.inr (.inr (5, rs))) = mkW (sT (sW t) c rs)) (hx : x = (i : Int)) (hi : i < 14) (ok : OK t) (h : ∀ t', t' = uT t c i none → OK t' → Rp B N k lv st (mk t') P) : Rp B N (o_aast 5 5 k) lv (.null :: .int (jI x) :: .ref c :: st) (mk t) P := by
  have hr : jr x := ⟨by omega, by omega⟩
  refine Rp_map (fun _ => rb_aastN hA (jI_nn (by omega) hr) ?_ ?_) (h _ rfl (ok.uT (fun q hq => by cases hq)))
  · rw [jI_clamp (by omega) hr, rowT_len]; omega
  · rw [jI_clamp (by omega) hr, show x.toNat = i by omega, hW, mk_uT]
theorem w_aastX {c : Nat} (hA : ab_ra (mk t) c 5 = some (rowT (tT t c))) (hW : ∀ rs, (mk t).set c (.inr (.inr (5, rs))) = mkW (sT (sW t) c rs)) (hx : x = (i : Int)) (hi : i < 14) (hj : j < (tD t).length) (ok : OK t) (h : ∀ t', t' = uT t c i (some (92 + 4 * j)) → OK t' → Rp B N k lv st (mk t') P) : Rp B N (o_aast 5 5 k) lv (.ref (92 + 4 * j) :: .int (jI x) :: .ref c :: st) (mk t) P := by
  have hr : jr x := ⟨by omega, by omega⟩
  refine Rp_map (fun _ => rb_aastR hA (jI_nn (by omega) hr) (mkX hj).1 ?_ ?_) (h _ rfl (ok.uT (fun q hq => by cases hq; exact ⟨j, hj, rfl⟩)))
  · rw [jI_clamp (by omega) hr, rowT_len]; omega
  · rw [jI_clamp (by omega) hr, show x.toNat = i by omega, hW, mk_uT]
end WX
