/-! ===== p1: what the first call answers ===== -/
theorem ia_lo (a : Int32) : -2147483648 ≤ a.toInt := Int32.le_toInt a
theorem ia_hi (a : Int32) : a.toInt ≤ 2147483647 := Int32.toInt_le a
theorem ia_lt {a c : Int32} {H : Int} (h : a.toInt ≤ H) (hc : H < c.toInt) : a < c := Int32.lt_iff_toInt_lt.mpr (by omega)
theorem ia_nlt {a c : Int32} {L : Int} (h : L ≤ a.toInt) (hc : c.toInt ≤ L) : ¬ a < c := fun q => by have := Int32.lt_iff_toInt_lt.mp q; omega
theorem ia_gt {a c : Int32} {L : Int} (h : L ≤ a.toInt) (hc : c.toInt < L) : c < a := Int32.lt_iff_toInt_lt.mpr (by omega)
theorem ia_ngt {a c : Int32} {H : Int} (h : a.toInt ≤ H) (hc : H ≤ c.toInt) : ¬ c < a := fun q => by have := Int32.lt_iff_toInt_lt.mp q; omega
theorem ia_ge {a c : Int32} (h : ¬ a < c) : c ≤ a := Int32.not_lt.mp h
theorem ia_nge {a c : Int32} (h : a < c) : ¬ c ≤ a := fun q => by have h1 := Int32.lt_iff_toInt_lt.mp h; have h2 := Int32.le_iff_toInt_le.mp q; omega
theorem ia_neL {a c : Int32} {H : Int} (h : a.toInt ≤ H) (hc : H < c.toInt) : ¬ a = c := fun q => by subst q; omega
theorem ia_neH {a c : Int32} {L : Int} (h : L ≤ a.toInt) (hc : c.toInt < L) : ¬ a = c := fun q => by subst q; omega
theorem ia_cut {a : Int32} {c L H : Int} (hl : L ≤ a.toInt) (hh : a.toInt ≤ H) : (L ≤ a.toInt ∧ a.toInt ≤ c - 1) ∨ (c ≤ a.toInt ∧ a.toInt ≤ H) := by omega
theorem ia_one {a c : Int32} {L H : Int} (hl : L ≤ a.toInt) (hh : a.toInt ≤ H) (h1 : L = c.toInt) (h2 : H = c.toInt) : a = c := Int32.toInt_inj.mp (by omega)
theorem ia_box {a : Int32} {l L H : Int} {m : Nat} (hl : L ≤ a.toInt) (hh : a.toInt ≤ H) (h1 : L = l) (h2 : H = l + m - 1) : ∃ n : Nat, n < m ∧ a = Int32.ofInt (l + (n : Int)) := by
  refine ⟨(a.toInt - l).toNat, by omega, ?_⟩
  rw [show l + ((a.toInt - l).toNat : Int) = a.toInt by omega, Int32.ofInt_toInt]
theorem tsw_lo {x : Int32} {lo H : Int} {bs : List Nat} {df : Nat} (h : x.toInt ≤ H) (hc : H < lo) : ab_tsw lo bs df x = df := by
  unfold ab_tsw
  rw [if_pos (by omega)]
theorem tsw_hi {x : Int32} {lo L : Int} {bs : List Nat} {df : Nat} (h : L ≤ x.toInt) (hc : lo + bs.length ≤ L) : ab_tsw lo bs df x = df := by
  unfold ab_tsw
  rw [if_neg (by omega), List.getD_eq_getElem?_getD, List.getElem?_eq_none (by omega)]
  rfl
theorem ok_lt {s : ST} (h : okL s) {c n j : Nat} (hc : c < 92) (hn : LEN c = n) (h0 : n ≠ 0) (hj : j < n) : j < (s.2.1 c).length := by rw [okL_len h hc hn h0]; exact hj
def P1 (ix im : Nat) (As : List Value) : Prop := ∃ (v : Int32) (w2 w3 : ab_W) (fs : List Value), EX FU 8 ix (.ref 0 :: As) (mkW s1) = some (some (.int v), w2) ∧ w2[68]? = some (.inl (8, fs)) ∧ EX FU 8 im (.ref 68 :: As) w2 = some (some (.int v), w3) ∧ w3.length ≤ 600000 ∧ ab_tot w3 ≤ 7302250
def ck (ix im : Nat) (As : List Value) : Bool := match EX FU 8 ix (.ref 0 :: As) (mkW s1) with
  | some (some (.int v), w2) => (match (w2[68]? : Option ab_C) with
    | some (Sum.inl (c, _)) => c == 8 && (match EX FU 8 im (.ref 68 :: As) w2 with
      | some (some (.int v'), w3) => v == v' && (Nat.ble w3.length 600000 && Nat.ble (ab_tot w3) 7302250)
      | _ => false)
    | _ => false)
  | _ => false
theorem ck_ok {ix im : Nat} {As : List Value} (h : ck ix im As = true) : P1 ix im As := by
  unfold ck at h
  split at h
  · rename_i v w2 h1
    split at h
    · rename_i c fs h2
      rw [Bool.and_eq_true] at h
      obtain ⟨h3, h⟩ := h
      split at h
      · rename_i v' w3 h4
        rw [Bool.and_eq_true, Bool.and_eq_true] at h
        obtain ⟨h5, h6, h7⟩ := h
        have e1 : c = 8 := by simpa using h3
        have e2 : v = v' := by simpa using h5
        subst e1 e2
        exact ⟨v, w2, w3, fs, h1, h2, h4, Nat.le_of_ble_eq_true h6, Nat.le_of_ble_eq_true h7⟩
      · cases h
    · cases h
  · cases h
theorem p1_len {s : ST} (h : okL s) (hd : s.2.2.2.2 = []) : (mkW s).length ≤ 600000 := by
  rw [(okL_tot h).1, hd]
  decide
theorem p1_tot {s : ST} (h : okL s) (hd : s.2.2.2.2 = []) : ab_tot (mkW s) ≤ 7302250 := by
  rw [(okL_tot h).2, hd]
  decide
theorem p1_intro {ix im : Nat} {As : List Value} {v : Int32} {s2 s3 : ST} (h1 : EX FU 8 ix (.ref 0 :: As) (mkW s1) = some (some (.int v), mkW s2)) (h2 : EX FU 8 im (.ref 68 :: As) (mkW s2) = some (some (.int v), mkW s3)) (h3 : okL s3) (h4 : s3.2.2.2.2 = []) : P1 ix im As := ⟨v, mkW s2, mkW s3, _, h1, rfl, h2, p1_len h3 h4, p1_tot h3 h4⟩
theorem rb_iastL {B : List ab_K} {N : Nat} {k : ab_K} {lv : ab_L} {st : List Value} {w w' : ab_W} {r : Option Value × ab_W} {a t : Nat} {x j : Int32} {xs xs' : List Int32} {f : Int32 → Int32} (ha : ab_ia w a t = some xs) (hj : ¬ j < 0) (hl : j.toNatClampNeg < xs.length) (hx : xs.set j.toNatClampNeg (f x) = xs') (hw : w.set a (.inr (.inl (t, xs'))) = w') (h : Rb B N k lv st w' r) : Rb B N (o_iast t f k) lv (.int x :: .int j :: .ref a :: st) w r := by
  subst hx; exact rb_iast ha hj hl hw h
theorem okA {s : ST} (h : okL s) {c n : Nat} {xs : List Int32} (hc : c < 92) (hn : LEN c = n) (h0 : n ≠ 0) (hx : xs.length = n) : okL (sA s c xs) := h.sA c (by rw [hx, okL_len h hc hn h0])
