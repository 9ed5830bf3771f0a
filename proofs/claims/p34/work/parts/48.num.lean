/-! ===== numbers of the program as whole numbers ===== -/
def jI (z : Int) : Int32 := Int32.ofInt z
theorem jI_add (a b : Int) : jI a + jI b = jI (a + b) := (Int32.ofInt_add a b).symm
theorem jI_sub (a b : Int) : jI a - jI b = jI (a - b) := (Int32.ofInt_sub a b).symm
theorem jI_mul (a b : Int) : jI a * jI b = jI (a * b) := (Int32.ofInt_mul a b).symm
theorem jI_self (x : Int32) : jI x.toInt = x := Int32.ofInt_toInt x
def jr (z : Int) : Prop := -2147483648 ≤ z ∧ z < 2147483648
theorem jI_toInt {z : Int} (h : jr z) : (jI z).toInt = z := Int32.toInt_ofInt_of_le h.1 h.2
theorem jI_lt {a b : Int} (ha : jr a) (hb : jr b) : jI a < jI b ↔ a < b := by rw [Int32.lt_iff_toInt_lt, jI_toInt ha, jI_toInt hb]
theorem jI_le {a b : Int} (ha : jr a) (hb : jr b) : jI a ≤ jI b ↔ a ≤ b := by rw [Int32.le_iff_toInt_le, jI_toInt ha, jI_toInt hb]
theorem jI_eq {a b : Int} (ha : jr a) (hb : jr b) : jI a = jI b ↔ a = b := by
  refine ⟨fun h => ?_, fun h => by rw [h]⟩
  have := congrArg Int32.toInt h
  rwa [jI_toInt ha, jI_toInt hb] at this
theorem jI_nat (n : Nat) : jI (n : Int) = nI n := Int32.ofInt_eq_ofNat ..
theorem jI_nn {z : Int} (h0 : 0 ≤ z) (h : jr z) : ¬ jI z < 0 := by
  have e : (0 : Int32) = jI 0 := rfl
  rw [e, jI_lt h ⟨by decide, by decide⟩]
  omega
theorem jI_clamp {z : Int} (h0 : 0 ≤ z) (h : jr z) : (jI z).toNatClampNeg = z.toNat := by
  obtain ⟨n, rfl⟩ := Int.eq_ofNat_of_zero_le h0
  rw [jI_nat, nI_clamp (by have := h.2; omega)]
  rfl
theorem jI_div {a b : Int} (ha0 : 0 ≤ a) (ha : jr a) (hb0 : 0 < b) (hb : jr b) : jI a / jI b = jI (a / b) := by
  obtain ⟨n, rfl⟩ := Int.eq_ofNat_of_zero_le ha0
  obtain ⟨m, rfl⟩ := Int.eq_ofNat_of_zero_le (Int.le_of_lt hb0)
  rw [jI_nat, jI_nat, pk_div (by have := ha.2; omega) (by omega) (by have := hb.2; omega), ← jI_nat]
  rfl
theorem jI_rem {a b : Int} (ha0 : 0 ≤ a) (ha : jr a) (hb0 : 0 < b) (hb : jr b) : jI a - jI a / jI b * jI b = jI (a % b) := by
  obtain ⟨n, rfl⟩ := Int.eq_ofNat_of_zero_le ha0
  obtain ⟨m, rfl⟩ := Int.eq_ofNat_of_zero_le (Int.le_of_lt hb0)
  rw [jI_nat, jI_nat, pk_rem (by have := ha.2; omega) (by omega) (by have := hb.2; omega), ← jI_nat]
  rfl
