def LTp (t : TS) : Prop := tI t 39 7 = 1 → (97 ≤ tA t 38 (tI t 39 8).toNat ∧ tA t 38 (tI t 39 8).toNat ≤ 122)
