/-! ===== the state in whole numbers ===== -/
abbrev TX : Type := Int × Int × List Int32 × List Int32 × List Int32
abbrev TS : Type := (Nat → Nat → Int) × (Nat → Nat → Int) × (Nat → Nat → Option Nat) × Nat × List TX
def tI (t : TS) (c f : Nat) : Int := t.1 c f
def tA (t : TS) (c i : Nat) : Int := t.2.1 c i
def tT (t : TS) (c i : Nat) : Option Nat := t.2.2.1 c i
def tN (t : TS) : Nat := t.2.2.2.1
def tD (t : TS) : List TX := t.2.2.2.2
def row (n : Nat) (f : Nat → Int) : List Int32 := (List.range n).map (fun i => jI (f i))
def rowT (f : Nat → Option Nat) : List (Option Nat) := (List.range 14).map f
def quad : Nat → List TX → ab_W
  | _, [] => []
  | p, x :: r => .inl (5, [.int (jI x.1), .int (jI x.2.1), .ref (p + 1), .ref (p + 2), .ref (p + 3)]) :: .inr (.inl (0, x.2.2.1)) :: .inr (.inl (0, x.2.2.2.1)) :: .inr (.inl (0, x.2.2.2.2)) :: quad (p + 4) r
def sW (t : TS) : ST := (fun c f => jI (tI t c f), fun c => row (LEN c) (tA t c), fun c => rowT (tT t c), tN t, quad 92 (tD t))
def mk (t : TS) : ab_W := mkW (sW t)
def uI (t : TS) (c f : Nat) (z : Int) : TS := (fun c' f' => if c' = c ∧ f' = f then z else t.1 c' f', t.2)
def uA (t : TS) (c i : Nat) (z : Int) : TS := (t.1, fun c' i' => if c' = c ∧ i' = i then z else t.2.1 c' i', t.2.2)
def uR (t : TS) (c : Nat) (g : Nat → Int) : TS := (t.1, fun c' i' => if c' = c then g i' else t.2.1 c' i', t.2.2)
def uT (t : TS) (c i : Nat) (z : Option Nat) : TS := (t.1, t.2.1, fun c' i' => if c' = c ∧ i' = i then z else t.2.2.1 c' i', t.2.2.2)
def uN (t : TS) (n : Nat) : TS := (t.1, t.2.1, t.2.2.1, n, t.2.2.2.2)
def uD (t : TS) (l : List TX) : TS := (t.1, t.2.1, t.2.2.1, t.2.2.2.1, l)
theorem row_len (n : Nat) (f : Nat → Int) : (row n f).length = n := by simp [row]
theorem row_get {n i : Nat} {f : Nat → Int} (h : i < n) : (row n f)[i]? = some (jI (f i)) := by simp [row, h]
theorem row_set (n i : Nat) (f : Nat → Int) (z : Int) : (row n f).set i (jI z) = row n (fun j => if j = i then z else f j) := by
  apply List.ext_getElem?
  intro j
  rw [List.getElem?_set, row_len]
  by_cases hj : j < n
  · rw [row_get hj, row_get hj]
    by_cases e : i = j
    · subst e; simp [hj]
    · have e2 : ¬ j = i := fun q => e q.symm
      simp [e, e2]
  · have h1 : (row n f)[j]? = none := List.getElem?_eq_none (by rw [row_len]; omega)
    have h2 : (row n (fun j => if j = i then z else f j))[j]? = none := List.getElem?_eq_none (by rw [row_len]; omega)
    rw [h1, h2]
    by_cases e : i = j
    · subst e; simp [hj]
    · simp [e]
theorem rowT_len (f : Nat → Option Nat) : (rowT f).length = 14 := by simp [rowT]
theorem rowT_get {i : Nat} {f : Nat → Option Nat} (h : i < 14) : (rowT f)[i]? = some (f i) := by simp [rowT, h]
theorem rowT_set (i : Nat) (f : Nat → Option Nat) (z : Option Nat) : (rowT f).set i z = rowT (fun j => if j = i then z else f j) := by
  apply List.ext_getElem?
  intro j
  rw [List.getElem?_set, rowT_len]
  by_cases hj : j < 14
  · rw [rowT_get hj, rowT_get hj]
    by_cases e : i = j
    · subst e; simp [hj]
    · have e2 : ¬ j = i := fun q => e q.symm
      simp [e, e2]
  · have h1 : (rowT f)[j]? = none := List.getElem?_eq_none (by rw [rowT_len]; omega)
    have h2 : (rowT (fun j => if j = i then z else f j))[j]? = none := List.getElem?_eq_none (by rw [rowT_len]; omega)
    rw [h1, h2]
    by_cases e : i = j
    · subst e; simp [hj]
    · simp [e]
theorem mk_uI (t : TS) (c f : Nat) (z : Int) : mkW (sI (sW t) c f (jI z)) = mk (uI t c f z) := by
  refine congrArg mkW (Prod.ext ?_ rfl)
  funext c' f'
  show (if c' = c then (if f' = f then jI z else jI (tI t c' f')) else jI (tI t c' f')) = jI (if c' = c ∧ f' = f then z else tI t c' f')
  by_cases h1 : c' = c
  · by_cases h2 : f' = f
    · simp [h1, h2]
    · simp [h2]
  · simp [h1]
theorem mk_uR (t : TS) (c : Nat) (g : Nat → Int) : mkW (sA (sW t) c (row (LEN c) g)) = mk (uR t c g) := by
  refine congrArg mkW (Prod.ext rfl (Prod.ext ?_ rfl))
  funext c'
  show (if c' = c then row (LEN c) g else row (LEN c') (tA t c')) = row (LEN c') (fun i' => if c' = c then g i' else tA t c' i')
  by_cases h1 : c' = c
  · subst h1; simp
  · simp [h1]
theorem mk_uA (t : TS) (c i : Nat) (z : Int) : mkW (sA (sW t) c ((row (LEN c) (tA t c)).set i (jI z))) = mk (uA t c i z) := by
  rw [row_set, mk_uR]
  refine congrArg mk (Prod.ext rfl (Prod.ext ?_ rfl))
  funext c' i'
  show (if c' = c then (if i' = i then z else tA t c i') else tA t c' i') = (if c' = c ∧ i' = i then z else tA t c' i')
  by_cases h1 : c' = c
  · subst h1; simp
  · simp [h1]
theorem mk_uT (t : TS) (c i : Nat) (z : Option Nat) : mkW (sT (sW t) c ((rowT (tT t c)).set i z)) = mk (uT t c i z) := by
  rw [rowT_set]
  refine congrArg mkW (Prod.ext rfl (Prod.ext rfl (Prod.ext ?_ rfl)))
  funext c'
  show (if c' = c then rowT (fun j => if j = i then z else tT t c j) else rowT (tT t c')) = rowT (fun i' => if c' = c ∧ i' = i then z else tT t c' i')
  by_cases h1 : c' = c
  · subst h1; simp
  · simp [h1]
theorem tI_uI (t : TS) (c f : Nat) (z : Int) (c' f' : Nat) : tI (uI t c f z) c' f' = if c' = c ∧ f' = f then z else tI t c' f' := rfl
theorem tA_uI (t : TS) (c f : Nat) (z : Int) : tA (uI t c f z) = tA t := rfl
theorem tA_uA (t : TS) (c i : Nat) (z : Int) (c' i' : Nat) : tA (uA t c i z) c' i' = if c' = c ∧ i' = i then z else tA t c' i' := rfl
theorem tI_uA (t : TS) (c i : Nat) (z : Int) : tI (uA t c i z) = tI t := rfl
theorem tA_uR (t : TS) (c : Nat) (g : Nat → Int) (c' i' : Nat) : tA (uR t c g) c' i' = if c' = c then g i' else tA t c' i' := rfl
theorem tI_uR (t : TS) (c : Nat) (g : Nat → Int) : tI (uR t c g) = tI t := rfl
theorem tT_uT (t : TS) (c i : Nat) (z : Option Nat) (c' i' : Nat) : tT (uT t c i z) c' i' = if c' = c ∧ i' = i then z else tT t c' i' := rfl
/-! ranges -/
def nR (i : Nat) : Int × Int := if i < 5 then (if i = 1 then (0, 12) else if i = 3 then (0, 100) else if i = 4 then (0, 14) else (-2147483648, 2147483647)) else if i < 29 then (0, 99) else if i < 89 then (if (i - 29) % 5 = 0 then (0, 5) else if (i - 29) % 5 < 3 then (0, 6) else if (i - 29) % 5 = 3 then (0, 12) else (0, 1)) else if i < 117 then (if (i - 89) % 2 = 0 then (0, 2095) else (0, 96)) else (-10, 10002)
def kR (i : Nat) : Int × Int := if i = 0 then (0, 0) else if i = 1 then (4, 4) else if i = 2 then (7, 7) else (11, 11)
def FR (c f : Nat) : Int × Int := match c, f with
  | 0, 8 => (0, 60)
  | 0, 9 => (0, 1)
  | 1, 10 => (0, 12)
  | 1, 11 => (0, 14)
  | 1, 12 => (0, 100)
  | 12, 10 => (0, 12)
  | 12, 11 => (0, 14)
  | 12, 12 => (0, 100)
  | 24, 10 => (0, 12)
  | 24, 11 => (0, 14)
  | 24, 12 => (0, 100)
  | 37, 1 => (0, 96)
  | 39, 0 => ((-1), 96)
  | 39, 4 => (0, 96)
  | 39, 5 => (0, 96)
  | 39, 7 => (0, 3)
  | 39, 8 => (0, 96)
  | 39, 9 => (0, 96)
  | 39, 10 => (0, 1)
  | 45, 1 => ((-1), 1)
  | 45, 2 => (0, 24)
  | 47, 1 => ((-1), 1)
  | 47, 2 => (0, 24)
  | 49, 1 => ((-1), 1)
  | 49, 2 => (0, 24)
  | 51, 1 => ((-1), 1)
  | 51, 2 => (0, 24)
  | 53, 1 => (0, 3)
  | 53, 2 => (0, 5)
  | 53, 3 => (0, 6)
  | 53, 4 => (0, 6)
  | 54, 1 => ((-1), 1)
  | 54, 2 => (0, 24)
  | 56, 1 => (0, 3)
  | 56, 2 => (0, 5)
  | 56, 3 => (0, 6)
  | 56, 4 => (0, 6)
  | 57, 1 => ((-1), 1)
  | 57, 2 => (0, 24)
  | 59, 1 => (0, 3)
  | 59, 2 => (0, 5)
  | 59, 3 => (0, 6)
  | 59, 4 => (0, 6)
  | 60, 1 => ((-1), 1)
  | 60, 2 => (0, 24)
  | 62, 1 => (0, 3)
  | 62, 2 => (0, 5)
  | 62, 3 => (0, 6)
  | 62, 4 => (0, 6)
  | 63, 1 => ((-1), 1)
  | 63, 2 => (0, 24)
  | 65, 1 => (0, 3)
  | 65, 2 => (0, 5)
  | 65, 3 => (0, 6)
  | 65, 4 => (0, 6)
  | 66, 1 => ((-1), 1)
  | 66, 2 => (0, 24)
  | 68, 3 => (0, 1)
  | 68, 4 => ((-1), 11)
  | 68, 9 => (0, 96)
  | 68, 10 => (0, 96)
  | 68, 11 => (0, 96)
  | 68, 12 => (0, 4)
  | 68, 13 => (0, 9999)
  | 68, 14 => ((-1), 96)
  | 68, 15 => (0, 2)
  | 68, 19 => (0, 96)
  | 68, 20 => (0, 96)
  | 68, 22 => (0, 96)
  | 68, 35 => (0, 60)
  | _, _ => (-2147483648, 2147483647)
def AR (c i : Nat) : Int × Int := match c with
  | 2 => (0, 5)
  | 3 => (0, 6)
  | 4 => (0, 6)
  | 5 => (0, 13)
  | 6 => (0, 1)
  | 7 => ((-1), 11)
  | 8 => (0, 99)
  | 9 => (0, 99)
  | 11 => ((-1), 13)
  | 13 => (0, 5)
  | 14 => (0, 6)
  | 15 => (0, 6)
  | 16 => (0, 13)
  | 17 => (0, 1)
  | 18 => ((-1), 11)
  | 19 => (0, 99)
  | 20 => (0, 99)
  | 22 => ((-1), 13)
  | 25 => (0, 5)
  | 26 => (0, 6)
  | 27 => (0, 6)
  | 28 => (0, 13)
  | 29 => (0, 1)
  | 30 => ((-1), 11)
  | 31 => (0, 99)
  | 32 => (0, 99)
  | 34 => ((-1), 13)
  | 36 => (0, 3200)
  | 38 => (0, 255)
  | 40 => (0, 255)
  | 73 => (0, 198)
  | 75 => (0, 255)
  | 76 => (97, 122)
  | 78 => ((-10), 10002)
  | 79 => ((-11), 0)
  | 80 => (0, 1)
  | 83 => ((-1), 1)
  | 84 => (0, 24)
  | 86 => (0, 3)
  | 88 => ((-5), 200)
  | 69 => nR i
  | 70 => nR i
  | 71 => nR i
  | 74 => nR i
  | 77 => kR i
  | _ => (-2147483648, 2147483647)
def TXok (x : TX) : Prop := (0 ≤ x.1 ∧ x.1 ≤ 2) ∧ (0 ≤ x.2.1 ∧ x.2.1 ≤ 96) ∧ x.2.2.1.length ≤ 95 ∧ x.2.2.2.1.length ≤ 95 ∧ x.2.2.2.2.length ≤ 96
def OK (t : TS) : Prop := (∀ c f, (FR c f).1 ≤ tI t c f ∧ tI t c f ≤ (FR c f).2) ∧ (∀ c i, (AR c i).1 ≤ tA t c i ∧ tA t c i ≤ (AR c i).2) ∧ (∀ c i q, tT t c i = some q → ∃ j, j < (tD t).length ∧ q = 92 + 4 * j) ∧ ∀ x ∈ tD t, TXok x
theorem OK.f {t : TS} (h : OK t) {c f : Nat} {lo hi : Int} (e : FR c f = (lo, hi)) : lo ≤ tI t c f ∧ tI t c f ≤ hi := by
  have := h.1 c f
  rw [e] at this
  exact this
theorem OK.a {t : TS} (h : OK t) {c i : Nat} {lo hi : Int} (e : AR c i = (lo, hi)) : lo ≤ tA t c i ∧ tA t c i ≤ hi := by
  have := h.2.1 c i
  rw [e] at this
  exact this
theorem OK.uI {t : TS} (h : OK t) {c f : Nat} {z lo hi : Int} (e : FR c f = (lo, hi)) (hz : lo ≤ z ∧ z ≤ hi) : OK (uI t c f z) := by
  refine ⟨fun c' f' => ?_, h.2.1, h.2.2.1, h.2.2.2⟩
  rw [tI_uI]
  split
  · rename_i q
    rw [q.1, q.2, e]
    exact hz
  · exact h.1 c' f'
theorem OK.uA {t : TS} (h : OK t) {c i : Nat} {z lo hi : Int} (e : AR c i = (lo, hi)) (hz : lo ≤ z ∧ z ≤ hi) : OK (uA t c i z) := by
  refine ⟨h.1, fun c' i' => ?_, h.2.2.1, h.2.2.2⟩
  rw [tA_uA]
  split
  · rename_i q
    rw [q.1, q.2, e]
    exact hz
  · exact h.2.1 c' i'
theorem OK.uR {t : TS} (h : OK t) {c : Nat} {g : Nat → Int} (hz : ∀ i, (AR c i).1 ≤ g i ∧ g i ≤ (AR c i).2) : OK (uR t c g) := by
  refine ⟨h.1, fun c' i' => ?_, h.2.2.1, h.2.2.2⟩
  rw [tA_uR]
  split
  · rename_i q
    rw [q]
    exact hz i'
  · exact h.2.1 c' i'
theorem OK.uT {t : TS} (h : OK t) {c i : Nat} {z : Option Nat} (hz : ∀ q, z = some q → ∃ j, j < (tD t).length ∧ q = 92 + 4 * j) : OK (uT t c i z) := by
  refine ⟨h.1, h.2.1, fun c' i' q hq => ?_, h.2.2.2⟩
  rw [tT_uT] at hq
  split at hq
  · exact hz q hq
  · exact h.2.2.1 c' i' q hq
theorem OK.uN {t : TS} (h : OK t) (n : Nat) : OK (uN t n) := h
/-! what is changed -/
def Dhd (x : TX) : Int × Int × List Int32 × List Int32 × Nat := (x.1, x.2.1, x.2.2.1, x.2.2.2.1, x.2.2.2.2.length)
def Fr (S : List (Nat × Nat)) (t t' : TS) : Prop := (∀ c f, (c, f) ∉ S → tI t' c f = tI t c f) ∧ (∀ c, (c, 100) ∉ S → ∀ i, tA t' c i = tA t c i) ∧ (∀ c, (c, 101) ∉ S → ∀ i, tT t' c i = tT t c i) ∧ ((39, 6) ∉ S → tN t' = tN t) ∧ (tD t').map Dhd = (tD t).map Dhd
theorem Fr.rf (S : List (Nat × Nat)) (t : TS) : Fr S t t := ⟨fun _ _ _ => rfl, fun _ _ _ => rfl, fun _ _ _ => rfl, fun _ => rfl, rfl⟩
theorem Fr.trans {S : List (Nat × Nat)} {t u v : TS} (h : Fr S t u) (k : Fr S u v) : Fr S t v := ⟨fun c f q => (k.1 c f q).trans (h.1 c f q), fun c q i => (k.2.1 c q i).trans (h.2.1 c q i), fun c q i => (k.2.2.1 c q i).trans (h.2.2.1 c q i), fun q => (k.2.2.2.1 q).trans (h.2.2.2.1 q), k.2.2.2.2.trans h.2.2.2.2⟩
theorem Fr.mono {S S' : List (Nat × Nat)} {t u : TS} (h : Fr S t u) (k : ∀ q ∈ S, q ∈ S') : Fr S' t u := ⟨fun c f q => h.1 c f (fun e => q (k _ e)), fun c q => h.2.1 c (fun e => q (k _ e)), fun c q => h.2.2.1 c (fun e => q (k _ e)), fun q => h.2.2.2.1 (fun e => q (k _ e)), h.2.2.2.2⟩
theorem Fr.then {S S' : List (Nat × Nat)} {t u v : TS} (h : Fr S t u) (k : Fr S' u v) (m : ∀ q ∈ S', q ∈ S) : Fr S t v := h.trans (k.mono m)
theorem Fr.uI {S : List (Nat × Nat)} {t u v : TS} {c f : Nat} {z : Int} (h : Fr S t u) (e : v = uI u c f z) (m : (c, f) ∈ S) : Fr S t v := by
  subst e
  refine h.trans ⟨fun c' f' q => ?_, fun _ _ _ => rfl, fun _ _ _ => rfl, fun _ => rfl, rfl⟩
  rw [tI_uI, if_neg (fun e => q (by rw [e.1, e.2]; exact m))]
theorem Fr.uA {S : List (Nat × Nat)} {t u v : TS} {c i : Nat} {z : Int} (h : Fr S t u) (e : v = uA u c i z) (m : (c, 100) ∈ S) : Fr S t v := by
  subst e
  refine h.trans ⟨fun _ _ _ => rfl, fun c' q i' => ?_, fun _ _ _ => rfl, fun _ => rfl, rfl⟩
  rw [tA_uA, if_neg (fun e => q (by rw [e.1]; exact m))]
theorem Fr.uR {S : List (Nat × Nat)} {t u v : TS} {c : Nat} {g : Nat → Int} (h : Fr S t u) (e : v = uR u c g) (m : (c, 100) ∈ S) : Fr S t v := by
  subst e
  refine h.trans ⟨fun _ _ _ => rfl, fun c' q i' => ?_, fun _ _ _ => rfl, fun _ => rfl, rfl⟩
  rw [tA_uR, if_neg (fun e => q (by rw [e]; exact m))]
theorem Fr.uT {S : List (Nat × Nat)} {t u v : TS} {c i : Nat} {z : Option Nat} (h : Fr S t u) (e : v = uT u c i z) (m : (c, 101) ∈ S) : Fr S t v := by
  subst e
  refine h.trans ⟨fun _ _ _ => rfl, fun _ _ _ => rfl, fun c' q i' => ?_, fun _ => rfl, rfl⟩
  rw [tT_uT, if_neg (fun e => q (by rw [e.1]; exact m))]
theorem Fr.uN {S : List (Nat × Nat)} {t u v : TS} {n : Nat} (h : Fr S t u) (e : v = uN u n) (m : (39, 6) ∈ S) : Fr S t v := by
  subst e
  exact h.trans ⟨fun _ _ _ => rfl, fun _ _ _ => rfl, fun _ _ _ => rfl, fun q => absurd m q, rfl⟩
theorem Fr.len {S : List (Nat × Nat)} {t u : TS} (h : Fr S t u) : (tD u).length = (tD t).length := by
  have := congrArg List.length h.2.2.2.2
  simpa using this
/-! wrapping -/
def nrm (z : Int) : Int := (jI z).toInt
theorem jI_nrm (z : Int) : jI (nrm z) = jI z := jI_self _
theorem nrm_jr (z : Int) : -2147483648 ≤ nrm z ∧ nrm z ≤ 2147483647 := by
  have h1 := Int32.le_toInt (jI z)
  have h2 := Int32.toInt_lt (jI z)
  unfold nrm
  omega
theorem nrm_id {z : Int} (h : -2147483648 ≤ z ∧ z ≤ 2147483647) : nrm z = z := jI_toInt ⟨h.1, by omega⟩
/-! ===== running, by what must hold behind it ===== -/
def Rn (B : List ab_K) (N b : Nat) (lv : ab_L) (st : List Value) (w : ab_W) (P : Option Value → ab_W → Prop) : Prop := lock 0 (∃ v w', ab_run B N b lv st w = some (v, w') ∧ P v w')
def Rp (B : List ab_K) (N : Nat) (k : ab_K) (lv : ab_L) (st : List Value) (w : ab_W) (P : Option Value → ab_W → Prop) : Prop := lock 0 (∃ v w', Rb B N k lv st w (v, w') ∧ P v w')
def CI (cal : ab_F) (i : Nat) (As : List Value) (w : ab_W) (Q : Int → TS → Prop) : Prop := ∃ z t, cal i As w = some (some (.int (jI z)), mk t) ∧ Q z t
def CV (cal : ab_F) (i : Nat) (As : List Value) (w : ab_W) (Q : TS → Prop) : Prop := ∃ t, cal i As w = some (none, mk t) ∧ Q t
def CR (cal : ab_F) (i : Nat) (As : List Value) (w : ab_W) (Q : Option Nat → TS → Prop) : Prop := ∃ o t, cal i As w = some (some (ab_rv o), mk t) ∧ Q o t
def CL (cal : ab_F) (i : Nat) (As : List Value) (w : ab_W) (Q : Int64 → TS → Prop) : Prop := ∃ z t, cal i As w = some (some (.long z), mk t) ∧ Q z t
def PI (Q : Int → TS → Prop) : Option Value → ab_W → Prop := fun v w => ∃ z t, v = some (.int (jI z)) ∧ w = mk t ∧ Q z t
def PV (Q : TS → Prop) : Option Value → ab_W → Prop := fun v w => ∃ t, v = none ∧ w = mk t ∧ Q t
def PR (Q : Option Nat → TS → Prop) : Option Value → ab_W → Prop := fun v w => ∃ o t, v = some (ab_rv o) ∧ w = mk t ∧ Q o t
def PL (Q : Int64 → TS → Prop) : Option Value → ab_W → Prop := fun v w => ∃ z t, v = some (.long z) ∧ w = mk t ∧ Q z t
theorem CI.mono {cal : ab_F} {i : Nat} {As : List Value} {w : ab_W} {Q Q' : Int → TS → Prop} (h : CI cal i As w Q) (k : ∀ z t, Q z t → Q' z t) : CI cal i As w Q' := by
  obtain ⟨z, t, e, q⟩ := h
  exact ⟨z, t, e, k z t q⟩
theorem CV.mono {cal : ab_F} {i : Nat} {As : List Value} {w : ab_W} {Q Q' : TS → Prop} (h : CV cal i As w Q) (k : ∀ t, Q t → Q' t) : CV cal i As w Q' := by
  obtain ⟨t, e, q⟩ := h
  exact ⟨t, e, k t q⟩
section WP
variable {B : List ab_K} {N : Nat} {k : ab_K} {lv lv' : ab_L} {st : List Value} {w : ab_W} {t : TS} {P : Option Value → ab_W → Prop} {tg i b : Nat} {x y z : Int}
theorem Rp_map {k' : ab_K} {st' : List Value} {w' : ab_W} (h : ∀ r, Rb B N k lv st w r → Rb B N k' lv' st' w' r) (q : Rp B N k lv st w P) : Rp B N k' lv' st' w' P := by
  unfold Rp at q ⊢
  rw [lock_eq] at q ⊢
  obtain ⟨v, w2, h1, h2⟩ := q
  exact ⟨v, w2, h _ h1, h2⟩
theorem Rp_run {st' : List Value} {w' : ab_W} (h : ∀ r, ab_run B N tg lv st w = some r → Rb B N k lv' st' w' r) (q : Rn B N tg lv st w P) : Rp B N k lv' st' w' P := by
  unfold Rn at q
  unfold Rp
  rw [lock_eq] at q ⊢
  obtain ⟨v, w2, h1, h2⟩ := q
  exact ⟨v, w2, h _ h1, h2⟩
theorem Rp_end {v : Option Value} {w' : ab_W} (h : Rb B N k lv st w (v, w')) (q : P v w') : Rp B N k lv st w P := by
  unfold Rp
  rw [lock_eq]
  exact ⟨v, w', h, q⟩
theorem w_step (hb : B[b]? = some k) (h : Rp B N k lv st w P) : Rn B (N + 1) b lv st w P := by
  unfold Rp at h
  unfold Rn
  rw [lock_eq] at h ⊢
  obtain ⟨v, w2, h1, h2⟩ := h
  exact ⟨v, w2, rn_step hb h1, h2⟩
theorem w_push {v : Int32} (hv : v = jI z) (h : Rp B N k lv (.int (jI z) :: st) w P) : Rp B N (o_push (.int v) k) lv st w P := by subst hv; exact Rp_map (fun _ => rb_push) h
theorem w_pushV {v : Value} (h : Rp B N k lv (v :: st) w P) : Rp B N (o_push v k) lv st w P := Rp_map (fun _ => rb_push) h
theorem w_iload (hv : lv[i]? = some (some (.int (jI z)))) (h : Rp B N k lv (.int (jI z) :: st) w P) : Rp B N (o_iload i k) lv st w P := Rp_map (fun _ => rb_iload hv) h
theorem w_aload {q : Nat} (hv : lv[i]? = some (some (.ref q))) (h : Rp B N k lv (.ref q :: st) w P) : Rp B N (o_aload i k) lv st w P := Rp_map (fun _ => rb_aload hv) h
theorem w_aloadN (hv : lv[i]? = some (some .null)) (h : Rp B N k lv (.null :: st) w P) : Rp B N (o_aload i k) lv st w P := Rp_map (fun _ => rb_aloadN hv) h
theorem w_istore (hl : ab_st1 lv i (.int (jI z)) = lv') (h : Rp B N k lv' st w P) : Rp B N (o_istore i k) lv (.int (jI z) :: st) w P := Rp_map (fun _ => rb_istore hl) h
theorem w_astore {q : Nat} (hl : ab_st1 lv i (.ref q) = lv') (h : Rp B N k lv' st w P) : Rp B N (o_astore i k) lv (.ref q :: st) w P := Rp_map (fun _ => rb_astore hl) h
theorem w_astoreN (hl : ab_st1 lv i .null = lv') (h : Rp B N k lv' st w P) : Rp B N (o_astore i k) lv (.null :: st) w P := Rp_map (fun _ => rb_astoreN hl) h
theorem w_iinc {n : Int32} (hn : n = jI y) (hv : lv[i]? = some (some (.int (jI x)))) (hl : ab_st1 lv i (.int (jI (x + y))) = lv') (h : Rp B N k lv' st w P) : Rp B N (o_iinc i n k) lv st w P := by
  subst hn
  exact Rp_map (fun _ => rb_iinc hv (by rw [jI_add]; exact hl)) h
theorem w_add (h : Rp B N k lv (.int (jI (x + y)) :: st) w P) : Rp B N (o_bin (fun x y => x + y) k) lv (.int (jI y) :: .int (jI x) :: st) w P := Rp_map (fun _ => rb_binL (jI_add x y)) h
theorem w_sub (h : Rp B N k lv (.int (jI (x - y)) :: st) w P) : Rp B N (o_bin (fun x y => x - y) k) lv (.int (jI y) :: .int (jI x) :: st) w P := Rp_map (fun _ => rb_binL (jI_sub x y)) h
theorem w_mul (h : Rp B N k lv (.int (jI (x * y)) :: st) w P) : Rp B N (o_bin (fun x y => x * y) k) lv (.int (jI y) :: .int (jI x) :: st) w P := Rp_map (fun _ => rb_binL (jI_mul x y)) h
theorem w_addW (h : ∀ z, z = nrm (x + y) → -2147483648 ≤ z → z ≤ 2147483647 → Rp B N k lv (.int (jI z) :: st) w P) : Rp B N (o_bin (fun x y => x + y) k) lv (.int (jI y) :: .int (jI x) :: st) w P := Rp_map (fun _ => rb_binL ((jI_add x y).trans (jI_nrm _).symm)) (h _ rfl (nrm_jr _).1 (nrm_jr _).2)
theorem w_subW (h : ∀ z, z = nrm (x - y) → -2147483648 ≤ z → z ≤ 2147483647 → Rp B N k lv (.int (jI z) :: st) w P) : Rp B N (o_bin (fun x y => x - y) k) lv (.int (jI y) :: .int (jI x) :: st) w P := Rp_map (fun _ => rb_binL ((jI_sub x y).trans (jI_nrm _).symm)) (h _ rfl (nrm_jr _).1 (nrm_jr _).2)
theorem w_mulW (h : ∀ z, z = nrm (x * y) → -2147483648 ≤ z → z ≤ 2147483647 → Rp B N k lv (.int (jI z) :: st) w P) : Rp B N (o_bin (fun x y => x * y) k) lv (.int (jI y) :: .int (jI x) :: st) w P := Rp_map (fun _ => rb_binL ((jI_mul x y).trans (jI_nrm _).symm)) (h _ rfl (nrm_jr _).1 (nrm_jr _).2)
theorem jI_ne0 (h : 0 < y ∧ y < 2147483648) : ¬ jI y = 0 := fun e => by
  have e2 : (0 : Int32) = jI 0 := rfl
  rw [e2, jI_eq ⟨by omega, by omega⟩ ⟨by decide, by decide⟩] at e
  omega
theorem w_div (hj : 0 ≤ x ∧ x < 2147483648 ∧ 0 < y ∧ y < 2147483648) (h : Rp B N k lv (.int (jI (x / y)) :: st) w P) : Rp B N (o_div (fun x y => x / y) k) lv (.int (jI y) :: .int (jI x) :: st) w P := Rp_map (fun _ => rb_divL (jI_ne0 hj.2.2) (jI_div hj.1 ⟨by omega, by omega⟩ hj.2.2.1 ⟨by omega, by omega⟩)) h
theorem w_rem (hj : 0 ≤ x ∧ x < 2147483648 ∧ 0 < y ∧ y < 2147483648) (h : Rp B N k lv (.int (jI (x % y)) :: st) w P) : Rp B N (o_div (fun x y => x - x / y * y) k) lv (.int (jI y) :: .int (jI x) :: st) w P := Rp_map (fun _ => rb_divL (jI_ne0 hj.2.2) (jI_rem hj.1 ⟨by omega, by omega⟩ hj.2.2.1 ⟨by omega, by omega⟩)) h
def fZ (f : Int32 → Int32 → Int32) (x y : Int) : Int := (f (jI x) (jI y)).toInt
def fU (f : Int32 → Int32) (x : Int) : Int := (f (jI x)).toInt
theorem fZ_jr (f : Int32 → Int32 → Int32) (x y : Int) : -2147483648 ≤ fZ f x y ∧ fZ f x y ≤ 2147483647 := by
  have h1 := Int32.le_toInt (f (jI x) (jI y))
  have h2 := Int32.toInt_lt (f (jI x) (jI y))
  unfold fZ
  omega
theorem fU_jr (f : Int32 → Int32) (x : Int) : -2147483648 ≤ fU f x ∧ fU f x ≤ 2147483647 := by
  have h1 := Int32.le_toInt (f (jI x))
  have h2 := Int32.toInt_lt (f (jI x))
  unfold fU
  omega
theorem w_bin {f : Int32 → Int32 → Int32} (h : ∀ z, z = fZ f x y → -2147483648 ≤ z → z ≤ 2147483647 → Rp B N k lv (.int (jI z) :: st) w P) : Rp B N (o_bin f k) lv (.int (jI y) :: .int (jI x) :: st) w P := Rp_map (fun _ => rb_binL (jI_self _).symm) (h _ rfl (fZ_jr f x y).1 (fZ_jr f x y).2)
theorem w_divG {f : Int32 → Int32 → Int32} (hy : ¬ y = 0 ∧ -2147483648 ≤ y ∧ y < 2147483648) (h : ∀ z, z = fZ f x y → -2147483648 ≤ z → z ≤ 2147483647 → Rp B N k lv (.int (jI z) :: st) w P) : Rp B N (o_div f k) lv (.int (jI y) :: .int (jI x) :: st) w P := by
  have h0 : ¬ jI y = 0 := fun e => by
    have e2 : (0 : Int32) = jI 0 := rfl
    rw [e2, jI_eq ⟨by omega, by omega⟩ ⟨by decide, by decide⟩] at e
    omega
  exact Rp_map (fun _ => rb_divL h0 (jI_self _).symm) (h _ rfl (fZ_jr f x y).1 (fZ_jr f x y).2)
theorem w_un {f : Int32 → Int32} (h : ∀ z, z = fU f x → -2147483648 ≤ z → z ≤ 2147483647 → Rp B N k lv (.int (jI z) :: st) w P) : Rp B N (o_un f k) lv (.int (jI x) :: st) w P := Rp_map (fun _ => rb_unL (jI_self _).symm) (h _ rfl (fU_jr f x).1 (fU_jr f x).2)
theorem w_max (hc : ab_cl st = true) (hj : -2147483648 ≤ x ∧ x < 2147483648 ∧ -2147483648 ≤ y ∧ y < 2147483648) (h : Rp B N k lv (.int (jI (max x y)) :: st) w P) : Rp B N (o_m2 (fun x y => if x < y then y else x) k) lv (.int (jI y) :: .int (jI x) :: st) w P := by
  refine Rp_map (fun _ => rb_m2L hc ?_) h
  by_cases hq : x < y
  · rw [if_pos ((jI_lt ⟨hj.1, hj.2.1⟩ ⟨hj.2.2.1, hj.2.2.2⟩).mpr hq)]
    congr 1
    omega
  · rw [if_neg (fun e => hq ((jI_lt ⟨hj.1, hj.2.1⟩ ⟨hj.2.2.1, hj.2.2.2⟩).mp e))]
    congr 1
    omega
theorem w_min (hc : ab_cl st = true) (hj : -2147483648 ≤ x ∧ x < 2147483648 ∧ -2147483648 ≤ y ∧ y < 2147483648) (h : Rp B N k lv (.int (jI (min x y)) :: st) w P) : Rp B N (o_m2 (fun x y => if y < x then y else x) k) lv (.int (jI y) :: .int (jI x) :: st) w P := by
  refine Rp_map (fun _ => rb_m2L hc ?_) h
  by_cases hq : y < x
  · rw [if_pos ((jI_lt ⟨hj.2.2.1, hj.2.2.2⟩ ⟨hj.1, hj.2.1⟩).mpr hq)]
    congr 1
    omega
  · rw [if_neg (fun e => hq ((jI_lt ⟨hj.2.2.1, hj.2.2.2⟩ ⟨hj.1, hj.2.1⟩).mp e))]
    congr 1
    omega
theorem w_abs (hc : ab_cl st = true) (hj : -2147483648 ≤ x ∧ x < 2147483648) (h : ∀ z, (0 ≤ x ∧ z = x ∨ x < 0 ∧ z = 0 - x) → Rp B N k lv (.int (jI z) :: st) w P) : Rp B N (o_m1 (fun x => if 0 ≤ x then x else 0 - x) k) lv (.int (jI x) :: st) w P := by
  have e0 : (0 : Int32) = jI 0 := rfl
  by_cases hq : 0 ≤ x
  · refine Rp_map (fun _ => rb_m1L hc ?_) (h x (Or.inl ⟨hq, rfl⟩))
    rw [if_pos]
    rw [e0]
    exact (jI_le ⟨by decide, by decide⟩ ⟨hj.1, hj.2⟩).mpr hq
  · refine Rp_map (fun _ => rb_m1L hc ?_) (h (0 - x) (Or.inr ⟨by omega, rfl⟩))
    rw [if_neg]
    · rw [e0, jI_sub]
    · rw [e0]
      exact fun e => hq ((jI_le ⟨by decide, by decide⟩ ⟨hj.1, hj.2⟩).mp e)
theorem w_absW (hc : ab_cl st = true) (h : ∀ z, z = fU (fun x => if 0 ≤ x then x else 0 - x) x → -2147483648 ≤ z → z ≤ 2147483647 → Rp B N k lv (.int (jI z) :: st) w P) : Rp B N (o_m1 (fun x => if 0 ≤ x then x else 0 - x) k) lv (.int (jI x) :: st) w P := Rp_map (fun _ => rb_m1L hc (jI_self _).symm) (h (fU (fun x => if 0 ≤ x then x else 0 - x) x) rfl (fU_jr (fun x => if 0 ≤ x then x else 0 - x) x).1 (fU_jr (fun x => if 0 ≤ x then x else 0 - x) x).2)
theorem w_dupR {q : Nat} (h : Rp B N k lv (.ref q :: .ref q :: st) w P) : Rp B N (o_dup k) lv (.ref q :: st) w P := Rp_map (fun _ => rb_dupR) h
theorem w_dup2 {q : Nat} (h : Rp B N k lv (.int (jI x) :: .ref q :: .int (jI x) :: .ref q :: st) w P) : Rp B N (o_dup2 k) lv (.int (jI x) :: .ref q :: st) w P := Rp_map (fun _ => rb_dup2) h
theorem w_popI (h : Rp B N k lv st w P) : Rp B N (o_pop k) lv (.int (jI x) :: st) w P := Rp_map (fun _ => rb_popI) h
theorem w_goto (h : Rn B N tg lv st w P) : Rp B N (o_goto tg) lv st w P := Rp_run (fun _ => rb_goto) h
theorem w_sw {f : Int32 → Nat} {n : Nat} (hf : f (jI x) = n) (h : Rn B N n lv st w P) : Rp B N (o_sw f) lv (.int (jI x) :: st) w P := Rp_run (fun _ => rb_swL hf) h
theorem w_ifnullN (h : Rn B N tg lv st w P) : Rp B N (o_ifnull tg k) lv (.null :: st) w P := Rp_run (fun _ => rb_ifnullN) h
theorem w_ifnullR {q : Nat} (h : Rp B N k lv st w P) : Rp B N (o_ifnull tg k) lv (.ref q :: st) w P := Rp_map (fun _ => rb_ifnullR) h
theorem w_ifnonnullR {q : Nat} (h : Rn B N tg lv st w P) : Rp B N (o_ifnonnull tg k) lv (.ref q :: st) w P := Rp_run (fun _ => rb_ifnonnullR) h
theorem w_ifnonnullN (h : Rp B N k lv st w P) : Rp B N (o_ifnonnull tg k) lv (.null :: st) w P := Rp_map (fun _ => rb_ifnonnullN) h
theorem w_retI {rt : Option FieldType} {Q : Int → TS → Prop} (hok : ab_ok rt (some (.int (jI z))) = true) (h : Q z t) : Rp B N (o_ret rt) lv [.int (jI z)] (mk t) (PI Q) := Rp_end (rb_ret hok rfl) ⟨z, t, rfl, rfl, h⟩
theorem w_retV {Q : TS → Prop} (h : Q t) : Rp B N (o_ret none) lv [] (mk t) (PV Q) := Rp_end (rb_retv rfl) ⟨t, rfl, rfl, h⟩
theorem w_retR {rt : Option FieldType} {Q : Option Nat → TS → Prop} {q : Nat} (hok : ab_ok rt (some (.ref q)) = true) (h : Q (some q) t) : Rp B N (o_ret rt) lv [.ref q] (mk t) (PR Q) := Rp_end (rb_ret hok rfl) ⟨some q, t, rfl, rfl, h⟩
theorem w_retN {rt : Option FieldType} {Q : Option Nat → TS → Prop} (hok : ab_ok rt (some .null) = true) (h : Q none t) : Rp B N (o_ret rt) lv [.null] (mk t) (PR Q) := Rp_end (rb_ret hok rfl) ⟨none, t, rfl, rfl, h⟩
theorem w_retL {rt : Option FieldType} {Q : Int64 → TS → Prop} {q : Int64} (hok : ab_ok rt (some (.long q)) = true) (h : Q q t) : Rp B N (o_ret rt) lv [.long q] (mk t) (PL Q) := Rp_end (rb_ret hok rfl) ⟨q, t, rfl, rfl, h⟩
theorem w_ceq (hj : -2147483648 ≤ x ∧ x < 2147483648 ∧ -2147483648 ≤ y ∧ y < 2147483648) (h1 : x = y → Rn B N tg lv st w P) (h2 : ¬ (x = y) → Rp B N k lv st w P) : Rp B N (o_cmp (fun x y => decide (x = y)) tg k) lv (.int (jI y) :: .int (jI x) :: st) w P := by
  by_cases hq : x = y
  · exact Rp_run (fun r hr => rj_ceq ⟨hj.1, hj.2.1⟩ ⟨hj.2.2.1, hj.2.2.2⟩ (fun _ => hr) (fun h => absurd hq h)) (h1 hq)
  · exact Rp_map (fun r hr => rj_ceq ⟨hj.1, hj.2.1⟩ ⟨hj.2.2.1, hj.2.2.2⟩ (fun h => absurd h hq) (fun _ => hr)) (h2 hq)
theorem w_cne (hj : -2147483648 ≤ x ∧ x < 2147483648 ∧ -2147483648 ≤ y ∧ y < 2147483648) (h1 : ¬ x = y → Rn B N tg lv st w P) (h2 : ¬ (¬ x = y) → Rp B N k lv st w P) : Rp B N (o_cmp (fun x y => decide (¬ x = y)) tg k) lv (.int (jI y) :: .int (jI x) :: st) w P := by
  by_cases hq : ¬ x = y
  · exact Rp_run (fun r hr => rj_cne ⟨hj.1, hj.2.1⟩ ⟨hj.2.2.1, hj.2.2.2⟩ (fun _ => hr) (fun h => absurd hq h)) (h1 hq)
  · exact Rp_map (fun r hr => rj_cne ⟨hj.1, hj.2.1⟩ ⟨hj.2.2.1, hj.2.2.2⟩ (fun h => absurd h hq) (fun _ => hr)) (h2 hq)
theorem w_clt (hj : -2147483648 ≤ x ∧ x < 2147483648 ∧ -2147483648 ≤ y ∧ y < 2147483648) (h1 : x < y → Rn B N tg lv st w P) (h2 : ¬ (x < y) → Rp B N k lv st w P) : Rp B N (o_cmp (fun x y => decide (x < y)) tg k) lv (.int (jI y) :: .int (jI x) :: st) w P := by
  by_cases hq : x < y
  · exact Rp_run (fun r hr => rj_clt ⟨hj.1, hj.2.1⟩ ⟨hj.2.2.1, hj.2.2.2⟩ (fun _ => hr) (fun h => absurd hq h)) (h1 hq)
  · exact Rp_map (fun r hr => rj_clt ⟨hj.1, hj.2.1⟩ ⟨hj.2.2.1, hj.2.2.2⟩ (fun h => absurd h hq) (fun _ => hr)) (h2 hq)
theorem w_cge (hj : -2147483648 ≤ x ∧ x < 2147483648 ∧ -2147483648 ≤ y ∧ y < 2147483648) (h1 : y ≤ x → Rn B N tg lv st w P) (h2 : ¬ (y ≤ x) → Rp B N k lv st w P) : Rp B N (o_cmp (fun x y => decide (y ≤ x)) tg k) lv (.int (jI y) :: .int (jI x) :: st) w P := by
  by_cases hq : y ≤ x
  · exact Rp_run (fun r hr => rj_cge ⟨hj.1, hj.2.1⟩ ⟨hj.2.2.1, hj.2.2.2⟩ (fun _ => hr) (fun h => absurd hq h)) (h1 hq)
  · exact Rp_map (fun r hr => rj_cge ⟨hj.1, hj.2.1⟩ ⟨hj.2.2.1, hj.2.2.2⟩ (fun h => absurd h hq) (fun _ => hr)) (h2 hq)
theorem w_cgt (hj : -2147483648 ≤ x ∧ x < 2147483648 ∧ -2147483648 ≤ y ∧ y < 2147483648) (h1 : y < x → Rn B N tg lv st w P) (h2 : ¬ (y < x) → Rp B N k lv st w P) : Rp B N (o_cmp (fun x y => decide (y < x)) tg k) lv (.int (jI y) :: .int (jI x) :: st) w P := by
  by_cases hq : y < x
  · exact Rp_run (fun r hr => rj_cgt ⟨hj.1, hj.2.1⟩ ⟨hj.2.2.1, hj.2.2.2⟩ (fun _ => hr) (fun h => absurd hq h)) (h1 hq)
  · exact Rp_map (fun r hr => rj_cgt ⟨hj.1, hj.2.1⟩ ⟨hj.2.2.1, hj.2.2.2⟩ (fun h => absurd h hq) (fun _ => hr)) (h2 hq)
theorem w_cle (hj : -2147483648 ≤ x ∧ x < 2147483648 ∧ -2147483648 ≤ y ∧ y < 2147483648) (h1 : x ≤ y → Rn B N tg lv st w P) (h2 : ¬ (x ≤ y) → Rp B N k lv st w P) : Rp B N (o_cmp (fun x y => decide (x ≤ y)) tg k) lv (.int (jI y) :: .int (jI x) :: st) w P := by
  by_cases hq : x ≤ y
  · exact Rp_run (fun r hr => rj_cle ⟨hj.1, hj.2.1⟩ ⟨hj.2.2.1, hj.2.2.2⟩ (fun _ => hr) (fun h => absurd hq h)) (h1 hq)
  · exact Rp_map (fun r hr => rj_cle ⟨hj.1, hj.2.1⟩ ⟨hj.2.2.1, hj.2.2.2⟩ (fun h => absurd h hq) (fun _ => hr)) (h2 hq)
theorem w_ieq (hj : -2147483648 ≤ x ∧ x < 2147483648) (h1 : x = 0 → Rn B N tg lv st w P) (h2 : ¬ (x = 0) → Rp B N k lv st w P) : Rp B N (o_if (fun x => decide (x = 0)) tg k) lv (.int (jI x) :: st) w P := by
  by_cases hq : x = 0
  · exact Rp_run (fun r hr => rj_ieq ⟨hj.1, hj.2⟩ (fun _ => hr) (fun h => absurd hq h)) (h1 hq)
  · exact Rp_map (fun r hr => rj_ieq ⟨hj.1, hj.2⟩ (fun h => absurd h hq) (fun _ => hr)) (h2 hq)
theorem w_ine (hj : -2147483648 ≤ x ∧ x < 2147483648) (h1 : ¬ x = 0 → Rn B N tg lv st w P) (h2 : ¬ (¬ x = 0) → Rp B N k lv st w P) : Rp B N (o_if (fun x => decide (¬ x = 0)) tg k) lv (.int (jI x) :: st) w P := by
  by_cases hq : ¬ x = 0
  · exact Rp_run (fun r hr => rj_ine ⟨hj.1, hj.2⟩ (fun _ => hr) (fun h => absurd hq h)) (h1 hq)
  · exact Rp_map (fun r hr => rj_ine ⟨hj.1, hj.2⟩ (fun h => absurd h hq) (fun _ => hr)) (h2 hq)
theorem w_ilt (hj : -2147483648 ≤ x ∧ x < 2147483648) (h1 : x < 0 → Rn B N tg lv st w P) (h2 : ¬ (x < 0) → Rp B N k lv st w P) : Rp B N (o_if (fun x => decide (x < 0)) tg k) lv (.int (jI x) :: st) w P := by
  by_cases hq : x < 0
  · exact Rp_run (fun r hr => rj_ilt ⟨hj.1, hj.2⟩ (fun _ => hr) (fun h => absurd hq h)) (h1 hq)
  · exact Rp_map (fun r hr => rj_ilt ⟨hj.1, hj.2⟩ (fun h => absurd h hq) (fun _ => hr)) (h2 hq)
theorem w_ige (hj : -2147483648 ≤ x ∧ x < 2147483648) (h1 : 0 ≤ x → Rn B N tg lv st w P) (h2 : ¬ (0 ≤ x) → Rp B N k lv st w P) : Rp B N (o_if (fun x => decide (0 ≤ x)) tg k) lv (.int (jI x) :: st) w P := by
  by_cases hq : 0 ≤ x
  · exact Rp_run (fun r hr => rj_ige ⟨hj.1, hj.2⟩ (fun _ => hr) (fun h => absurd hq h)) (h1 hq)
  · exact Rp_map (fun r hr => rj_ige ⟨hj.1, hj.2⟩ (fun h => absurd h hq) (fun _ => hr)) (h2 hq)
theorem w_ile (hj : -2147483648 ≤ x ∧ x < 2147483648) (h1 : x ≤ 0 → Rn B N tg lv st w P) (h2 : ¬ (x ≤ 0) → Rp B N k lv st w P) : Rp B N (o_if (fun x => decide (x ≤ 0)) tg k) lv (.int (jI x) :: st) w P := by
  by_cases hq : x ≤ 0
  · exact Rp_run (fun r hr => rj_ile ⟨hj.1, hj.2⟩ (fun _ => hr) (fun h => absurd hq h)) (h1 hq)
  · exact Rp_map (fun r hr => rj_ile ⟨hj.1, hj.2⟩ (fun h => absurd h hq) (fun _ => hr)) (h2 hq)
theorem tsw_at {lo : Int} {bs : List Nat} {df n : Nat} (h : x = y) (h2 : ab_tsw lo bs df (jI y) = n) : ab_tsw lo bs df (jI x) = n := by subst h; exact h2
theorem tsw_df {lo : Int} {bs : List Nat} {df m : Nat} (hm : bs.length = m) (hj : -2147483648 ≤ x ∧ x < 2147483648) (h : x < lo ∨ lo + m ≤ x) : ab_tsw lo bs df (jI x) = df := by
  subst hm
  unfold ab_tsw
  rw [jI_toInt ⟨hj.1, hj.2⟩]
  split
  · rfl
  · rw [List.getD_eq_getElem?_getD, List.getElem?_eq_none (by omega)]
    rfl
theorem lsw_at {ks : List (Int × Nat)} {df n : Nat} (h : x = y) (h2 : ab_lsw ks df (jI y).toInt = n) : ab_lsw ks df (jI x).toInt = n := by subst h; exact h2
theorem lsw_df {ks : List (Int × Nat)} {df : Nat} (hj : -2147483648 ≤ x ∧ x < 2147483648) (h : ∀ q ∈ ks, ¬ x = q.1) : ab_lsw ks df (jI x).toInt = df := by
  rw [jI_toInt ⟨hj.1, hj.2⟩]
  induction ks with
  | nil => rfl
  | cons q r ih =>
    obtain ⟨q1, q2⟩ := q
    unfold ab_lsw
    rw [if_neg (h (q1, q2) List.mem_cons_self)]
    exact ih (fun q hq => h q (List.mem_cons_of_mem _ hq))
theorem w_getR {c ci f q : Nat} (hv : ab_gf w c ci f = some (.ref q)) (h : Rp B N k lv (.ref q :: st) w P) : Rp B N (o_getf ci f k) lv (.ref c :: st) w P := Rp_map (fun _ => rb_getf hv) h
theorem w_getI {c ci f : Nat} {lo hi : Int} (hv : ab_gf (mk t) c ci f = some (.int (jI (tI t c f)))) (hF : FR c f = (lo, hi)) (ok : OK t) (h : ∀ z, z = tI t c f → lo ≤ z → z ≤ hi → Rp B N k lv (.int (jI z) :: st) (mk t) P) : Rp B N (o_getf ci f k) lv (.ref c :: st) (mk t) P := Rp_map (fun _ => rb_getf hv) (h _ rfl (ok.f hF).1 (ok.f hF).2)
theorem w_putI {c ci f : Nat} {lo hi : Int} (hv : ∀ x : Int32, ab_pf (mk t) c ci f (.int x) = some (mkW (sI (sW t) c f x))) (hF : FR c f = (lo, hi)) (ok : OK t) (hz : lo ≤ z ∧ z ≤ hi) (h : ∀ t', t' = uI t c f z → OK t' → Rp B N k lv st (mk t') P) : Rp B N (o_putI ci f k) lv (.int (jI z) :: .ref c :: st) (mk t) P := Rp_map (fun _ => rb_putI ((hv (jI z)).trans (congrArg some (mk_uI t c f z)))) (h _ rfl (ok.uI hF hz))
theorem w_putZ {c ci f : Nat} {lo hi : Int} (h01 : z = 0 ∨ z = 1) (hv : ∀ x : Int32, ab_pf (mk t) c ci f (.int x) = some (mkW (sI (sW t) c f x))) (hF : FR c f = (lo, hi)) (ok : OK t) (hz : lo ≤ z ∧ z ≤ hi) (h : ∀ t', t' = uI t c f z → OK t' → Rp B N k lv st (mk t') P) : Rp B N (o_putZ ci f k) lv (.int (jI z) :: .ref c :: st) (mk t) P := by
  refine Rp_map (fun _ => rb_putZ ?_ ((hv (jI z)).trans (congrArg some (mk_uI t c f z)))) (h _ rfl (ok.uI hF hz))
  rcases h01 with rfl | rfl
  · exact Or.inl rfl
  · exact Or.inr rfl
def AI (c tg n : Nat) (t : TS) : Prop := ab_ia (mk t) c tg = some (row n (tA t c)) ∧ (∀ xs, (mk t).set c (.inr (.inl (tg, xs))) = mkW (sA (sW t) c xs)) ∧ LEN c = n ∧ n ≤ 5000
theorem w_iald {c g n i : Nat} {lo hi : Int} (hA : AI c g n t) (hx : x = (i : Int)) (hn : i < n) (hF : AR c i = (lo, hi)) (ok : OK t) (h : ∀ z, z = tA t c i → lo ≤ z → z ≤ hi → Rp B N k lv (.int (jI z) :: st) (mk t) P) : Rp B N (o_iald g k) lv (.int (jI x) :: .ref c :: st) (mk t) P := by
  have hn5 := hA.2.2.2
  have hr : jr x := ⟨by omega, by omega⟩
  refine Rp_map (fun _ => rb_iald hA.1 (jI_nn (by omega) hr) ?_) (h _ rfl (ok.a hF).1 (ok.a hF).2)
  rw [jI_clamp (by omega) hr, show x.toNat = i by omega]
  exact row_get hn
theorem w_iast {c g n i : Nat} {lo hi : Int} {f : Int32 → Int32} (hA : AI c g n t) (hf : f (jI z) = jI z) (hx : x = (i : Int)) (hn : i < n) (hF : AR c i = (lo, hi)) (ok : OK t) (hz : lo ≤ z ∧ z ≤ hi) (h : ∀ t', t' = uA t c i z → OK t' → Rp B N k lv st (mk t') P) : Rp B N (o_iast g f k) lv (.int (jI z) :: .int (jI x) :: .ref c :: st) (mk t) P := by
  have hn5 := hA.2.2.2
  have hr : jr x := ⟨by omega, by omega⟩
  refine Rp_map (fun _ => rb_iast hA.1 (jI_nn (by omega) hr) ?_ ?_) (h _ rfl (ok.uA hF hz))
  · rw [jI_clamp (by omega) hr, row_len]
    omega
  · rw [jI_clamp (by omega) hr, show x.toNat = i by omega, hf, hA.2.1, ← hA.2.2.1, mk_uA]
theorem w_alen {c g n : Nat} (hA : AI c g n t) (h : Rp B N k lv (.int (jI (n : Int)) :: st) (mk t) P) : Rp B N (o_alenI g k) lv (.ref c :: st) (mk t) P := by
  refine Rp_map (fun _ => rb_alenL hA.1 ?_) h
  rw [row_len, jI_nat]
  rfl
theorem cp_row {n : Nat} (f g : Nat → Int) {s d m : Nat} (h1 : s + m ≤ n) (h2 : d + m ≤ n) : ab_cp (row n f) (row n g) s d m = row n (fun i => if d ≤ i ∧ i < d + m then f (s + (i - d)) else g i) := by
  apply List.ext_getElem?
  intro j
  unfold ab_cp
  by_cases hj : j < n
  · rw [row_get hj]
    by_cases h3 : j < d
    · rw [List.getElem?_append_left (by rw [List.length_take, row_len]; omega), List.getElem?_take_of_lt h3, row_get hj, if_neg (by omega)]
    · rw [List.getElem?_append_right (by rw [List.length_take, row_len]; omega), List.length_take, row_len, show min d n = d by omega]
      by_cases h4 : j < d + m
      · rw [List.getElem?_append_left (by rw [List.length_take, List.length_drop, row_len]; omega), List.getElem?_take_of_lt (by omega), List.getElem?_drop, row_get (by omega), if_pos (by omega)]
      · rw [List.getElem?_append_right (by rw [List.length_take, List.length_drop, row_len]; omega), List.length_take, List.length_drop, row_len, List.getElem?_drop, show d + m + (j - d - min m (n - s)) = j by omega, row_get hj, if_neg (by omega)]
  · have e1 : (row n (fun i => if d ≤ i ∧ i < d + m then f (s + (i - d)) else g i))[j]? = none := List.getElem?_eq_none (by rw [row_len]; omega)
    rw [e1]
    apply List.getElem?_eq_none
    rw [List.length_append, List.length_append, List.length_take, List.length_take, List.length_drop, List.length_drop, row_len, row_len]
    omega
theorem w_acopy {c e n s d m : Nat} {x1 x2 x3 : Int} (hA : AI c 0 n t) (hE : AI e 0 n t) (hs : x1 = (s : Int)) (hd : x2 = (d : Int)) (hm : x3 = (m : Int)) (h1 : s + m ≤ n) (h2 : d + m ≤ n) (hcl : ab_cl st = true) (ok : OK t) (hr : ∀ i, d ≤ i → i < d + m → (AR e i).1 ≤ tA t c (s + (i - d)) ∧ tA t c (s + (i - d)) ≤ (AR e i).2) (h : ∀ t', t' = uR t e (fun i => if d ≤ i ∧ i < d + m then tA t c (s + (i - d)) else tA t e i) → OK t' → Rp B N k lv st (mk t') P) : Rp B N (o_acopy k) lv (.int (jI x3) :: .int (jI x2) :: .ref e :: .int (jI x1) :: .ref c :: st) (mk t) P := by
  have hn5 := hA.2.2.2
  have j1 : jr x1 := ⟨by omega, by omega⟩
  have j2 : jr x2 := ⟨by omega, by omega⟩
  have j3 : jr x3 := ⟨by omega, by omega⟩
  have c1 : (jI x1).toNatClampNeg = s := by rw [jI_clamp (by omega) j1]; omega
  have c2 : (jI x2).toNatClampNeg = d := by rw [jI_clamp (by omega) j2]; omega
  have c3 : (jI x3).toNatClampNeg = m := by rw [jI_clamp (by omega) j3]; omega
  refine Rp_map (fun _ => rb_acopy hA.1 hE.1 (jI_nn (by omega) j1) (jI_nn (by omega) j2) (jI_nn (by omega) j3) ?_ ?_ hcl ?_) (h _ rfl (ok.uR (fun i => ?_)))
  · rw [c1, c3, row_len]; exact h1
  · rw [c2, c3, row_len]; exact h2
  · rw [c1, c2, c3, cp_row _ _ h1 h2, hE.2.1, ← hE.2.2.1, mk_uR]
  · split
    · rename_i q
      exact hr i q.1 q.2
    · exact ok.2.1 e i
theorem w_sheets {i : Nat} (hx : x = (i : Int)) (hi : i < 4) (h : Rp B N k lv (.ref (45 + 2 * i) :: st) (mk t) P) : Rp B N (o_aald 3 k) lv (.int (jI x) :: .ref 42 :: st) (mk t) P := by
  have hr : jr x := ⟨by omega, by omega⟩
  refine Rp_map (fun _ => rb_aaldR (rs := [some 45, some 47, some 49, some 51]) rfl (jI_nn (by omega) hr) ?_) h
  rw [jI_clamp (by omega) hr, show x.toNat = i by omega]
  have : i = 0 ∨ i = 1 ∨ i = 2 ∨ i = 3 := by omega
  rcases this with rfl | rfl | rfl | rfl <;> rfl
theorem w_slots {i : Nat} (hx : x = (i : Int)) (hi : i < 5) (h : Rp B N k lv (.ref (53 + 3 * i) :: st) (mk t) P) : Rp B N (o_aald 4 k) lv (.int (jI x) :: .ref 43 :: st) (mk t) P := by
  have hr : jr x := ⟨by omega, by omega⟩
  refine Rp_map (fun _ => rb_aaldR (rs := [some 53, some 56, some 59, some 62, some 65]) rfl (jI_nn (by omega) hr) ?_) h
  rw [jI_clamp (by omega) hr, show x.toNat = i by omega]
  have : i = 0 ∨ i = 1 ∨ i = 2 ∨ i = 3 ∨ i = 4 := by omega
  rcases this with rfl | rfl | rfl | rfl | rfl <;> rfl
theorem w_texts {c i : Nat} (hA : ab_ra (mk t) c 5 = some (rowT (tT t c))) (hx : x = (i : Int)) (hi : i < 14) (ok : OK t) (h0 : tT t c i = none → Rp B N k lv (.null :: st) (mk t) P) (h1 : ∀ j, j < (tD t).length → tT t c i = some (92 + 4 * j) → Rp B N k lv (.ref (92 + 4 * j) :: st) (mk t) P) : Rp B N (o_aald 5 k) lv (.int (jI x) :: .ref c :: st) (mk t) P := by
  have hr : jr x := ⟨by omega, by omega⟩
  cases hT : tT t c i with
  | none =>
    refine Rp_map (fun _ => rb_aaldN hA (jI_nn (by omega) hr) ?_) (h0 hT)
    rw [jI_clamp (by omega) hr, show x.toNat = i by omega, rowT_get hi, hT]
  | some q =>
    obtain ⟨j, hj, rfl⟩ := ok.2.2.1 c i q hT
    refine Rp_map (fun _ => rb_aaldR hA (jI_nn (by omega) hr) ?_) (h1 j hj hT)
    rw [jI_clamp (by omega) hr, show x.toNat = i by omega, rowT_get hi, hT]
/-! entries -/
theorem CI_ent {d i nL : Nat} {Bk : ab_F → List ab_K} {As : List Value} {Q : Int → TS → Prop} (hB : ab_Bf i = Bk) (hL : (ab_Mf i).2.2.1 = nL) (h1 : As.all (fun v => v.category == 1) = true) (h2 : As.length ≤ nL) (h : Rn (Bk (EX FU d)) 1000000 0 (ab_ent As nL) [] w (PI Q)) : CI (EX FU (d + 1)) i As w Q := by
  unfold Rn at h
  rw [lock_eq] at h
  obtain ⟨v, w2, e, z, t, rfl, rfl, hQ⟩ := h
  exact ⟨z, t, EX_run hB hL h1 h2 e, hQ⟩
theorem CV_ent {d i nL : Nat} {Bk : ab_F → List ab_K} {As : List Value} {Q : TS → Prop} (hB : ab_Bf i = Bk) (hL : (ab_Mf i).2.2.1 = nL) (h1 : As.all (fun v => v.category == 1) = true) (h2 : As.length ≤ nL) (h : Rn (Bk (EX FU d)) 1000000 0 (ab_ent As nL) [] w (PV Q)) : CV (EX FU (d + 1)) i As w Q := by
  unfold Rn at h
  rw [lock_eq] at h
  obtain ⟨v, w2, e, t, rfl, rfl, hQ⟩ := h
  exact ⟨t, EX_run hB hL h1 h2 e, hQ⟩
theorem CR_ent {d i nL : Nat} {Bk : ab_F → List ab_K} {As : List Value} {Q : Option Nat → TS → Prop} (hB : ab_Bf i = Bk) (hL : (ab_Mf i).2.2.1 = nL) (h1 : As.all (fun v => v.category == 1) = true) (h2 : As.length ≤ nL) (h : Rn (Bk (EX FU d)) 1000000 0 (ab_ent As nL) [] w (PR Q)) : CR (EX FU (d + 1)) i As w Q := by
  unfold Rn at h
  rw [lock_eq] at h
  obtain ⟨v, w2, e, z, t, rfl, rfl, hQ⟩ := h
  exact ⟨z, t, EX_run hB hL h1 h2 e, hQ⟩
theorem CL_ent {d i nL : Nat} {Bk : ab_F → List ab_K} {As : List Value} {Q : Int64 → TS → Prop} (hB : ab_Bf i = Bk) (hL : (ab_Mf i).2.2.1 = nL) (h1 : As.all (fun v => v.category == 1) = true) (h2 : As.length ≤ nL) (h : Rn (Bk (EX FU d)) 1000000 0 (ab_ent As nL) [] w (PL Q)) : CL (EX FU (d + 1)) i As w Q := by
  unfold Rn at h
  rw [lock_eq] at h
  obtain ⟨v, w2, e, z, t, rfl, rfl, hQ⟩ := h
  exact ⟨z, t, EX_run hB hL h1 h2 e, hQ⟩
end WP
section WC
variable {B : List ab_K} {N : Nat} {k : ab_K} {lv : ab_L} {st : List Value} {w : ab_W} {P : Option Value → ab_W → Prop} {i q : Nat} {cal : ab_F}
theorem w_callV0I {ci : Nat} {fs : List Value} {Q : Int → TS → Prop} (hb : w[q]? = some (.inl (ci, fs))) (hcl : ab_cl st = true) (hc : CI cal i [.ref q] w Q) (h : ∀ z t, Q z t → Rp B N k lv (.int (jI z) :: st) (mk t) P) : Rp B N (o_callV cal i 0 ci k) lv (.ref q :: st) w P := by
  obtain ⟨z, t, e, hq⟩ := hc
  exact Rp_map (fun _ => rb_callV0 hb hcl e) (h z t hq)
theorem w_callV0V {ci : Nat} {fs : List Value} {Q : TS → Prop} (hb : w[q]? = some (.inl (ci, fs))) (hcl : ab_cl st = true) (hc : CV cal i [.ref q] w Q) (h : ∀ t, Q t → Rp B N k lv st (mk t) P) : Rp B N (o_callV cal i 0 ci k) lv (.ref q :: st) w P := by
  obtain ⟨t, e, hq⟩ := hc
  exact Rp_map (fun _ => rb_callV0v hb hcl e) (h t hq)
theorem w_callV0R {ci : Nat} {fs : List Value} {Q : Option Nat → TS → Prop} (hb : w[q]? = some (.inl (ci, fs))) (hcl : ab_cl st = true) (hc : CR cal i [.ref q] w Q) (h0 : ∀ t, Q none t → Rp B N k lv (.null :: st) (mk t) P) (h1 : ∀ r t, Q (some r) t → Rp B N k lv (.ref r :: st) (mk t) P) : Rp B N (o_callV cal i 0 ci k) lv (.ref q :: st) w P := by
  obtain ⟨r, t, e, hq⟩ := hc
  cases r with
  | none => exact Rp_map (fun _ => rb_callV0 hb hcl e) (h0 t hq)
  | some r => exact Rp_map (fun _ => rb_callV0 hb hcl e) (h1 r t hq)
theorem w_callS1I {v1 : Value} {Q : Int → TS → Prop} (hcl : ab_cl st = true) (hc : CI cal i [v1] w Q) (h : ∀ z t, Q z t → Rp B N k lv (.int (jI z) :: st) (mk t) P) : Rp B N (o_callS cal i 1 k) lv (v1 :: st) w P := by
  obtain ⟨z, t, e, hq⟩ := hc
  exact Rp_map (fun _ => rb_callS1 hcl e) (h z t hq)
theorem w_callV1I {v1 : Value} {ci : Nat} {fs : List Value} {Q : Int → TS → Prop} (hb : w[q]? = some (.inl (ci, fs))) (hcl : ab_cl st = true) (hc : CI cal i [.ref q, v1] w Q) (h : ∀ z t, Q z t → Rp B N k lv (.int (jI z) :: st) (mk t) P) : Rp B N (o_callV cal i 1 ci k) lv (v1 :: .ref q :: st) w P := by
  obtain ⟨z, t, e, hq⟩ := hc
  exact Rp_map (fun _ => rb_callV1 hb hcl e) (h z t hq)
theorem w_callV1V {v1 : Value} {ci : Nat} {fs : List Value} {Q : TS → Prop} (hb : w[q]? = some (.inl (ci, fs))) (hcl : ab_cl st = true) (hc : CV cal i [.ref q, v1] w Q) (h : ∀ t, Q t → Rp B N k lv st (mk t) P) : Rp B N (o_callV cal i 1 ci k) lv (v1 :: .ref q :: st) w P := by
  obtain ⟨t, e, hq⟩ := hc
  exact Rp_map (fun _ => rb_callV1v hb hcl e) (h t hq)
theorem w_callV1R {v1 : Value} {ci : Nat} {fs : List Value} {Q : Option Nat → TS → Prop} (hb : w[q]? = some (.inl (ci, fs))) (hcl : ab_cl st = true) (hc : CR cal i [.ref q, v1] w Q) (h0 : ∀ t, Q none t → Rp B N k lv (.null :: st) (mk t) P) (h1 : ∀ r t, Q (some r) t → Rp B N k lv (.ref r :: st) (mk t) P) : Rp B N (o_callV cal i 1 ci k) lv (v1 :: .ref q :: st) w P := by
  obtain ⟨r, t, e, hq⟩ := hc
  cases r with
  | none => exact Rp_map (fun _ => rb_callV1 hb hcl e) (h0 t hq)
  | some r => exact Rp_map (fun _ => rb_callV1 hb hcl e) (h1 r t hq)
theorem w_callS2I {v1 v2 : Value} {Q : Int → TS → Prop} (hcl : ab_cl st = true) (hc : CI cal i [v1, v2] w Q) (h : ∀ z t, Q z t → Rp B N k lv (.int (jI z) :: st) (mk t) P) : Rp B N (o_callS cal i 2 k) lv (v2 :: v1 :: st) w P := by
  obtain ⟨z, t, e, hq⟩ := hc
  exact Rp_map (fun _ => rb_callS2 hcl e) (h z t hq)
theorem w_callS2V {v1 v2 : Value} {Q : TS → Prop} (hcl : ab_cl st = true) (hc : CV cal i [v1, v2] w Q) (h : ∀ t, Q t → Rp B N k lv st (mk t) P) : Rp B N (o_callS cal i 2 k) lv (v2 :: v1 :: st) w P := by
  obtain ⟨t, e, hq⟩ := hc
  exact Rp_map (fun _ => rb_callS2v hcl e) (h t hq)
theorem w_callV2I {v1 v2 : Value} {ci : Nat} {fs : List Value} {Q : Int → TS → Prop} (hb : w[q]? = some (.inl (ci, fs))) (hcl : ab_cl st = true) (hc : CI cal i [.ref q, v1, v2] w Q) (h : ∀ z t, Q z t → Rp B N k lv (.int (jI z) :: st) (mk t) P) : Rp B N (o_callV cal i 2 ci k) lv (v2 :: v1 :: .ref q :: st) w P := by
  obtain ⟨z, t, e, hq⟩ := hc
  exact Rp_map (fun _ => rb_callV2 hb hcl e) (h z t hq)
theorem w_callV2V {v1 v2 : Value} {ci : Nat} {fs : List Value} {Q : TS → Prop} (hb : w[q]? = some (.inl (ci, fs))) (hcl : ab_cl st = true) (hc : CV cal i [.ref q, v1, v2] w Q) (h : ∀ t, Q t → Rp B N k lv st (mk t) P) : Rp B N (o_callV cal i 2 ci k) lv (v2 :: v1 :: .ref q :: st) w P := by
  obtain ⟨t, e, hq⟩ := hc
  exact Rp_map (fun _ => rb_callV2v hb hcl e) (h t hq)
theorem w_callV2R {v1 v2 : Value} {ci : Nat} {fs : List Value} {Q : Option Nat → TS → Prop} (hb : w[q]? = some (.inl (ci, fs))) (hcl : ab_cl st = true) (hc : CR cal i [.ref q, v1, v2] w Q) (h0 : ∀ t, Q none t → Rp B N k lv (.null :: st) (mk t) P) (h1 : ∀ r t, Q (some r) t → Rp B N k lv (.ref r :: st) (mk t) P) : Rp B N (o_callV cal i 2 ci k) lv (v2 :: v1 :: .ref q :: st) w P := by
  obtain ⟨r, t, e, hq⟩ := hc
  cases r with
  | none => exact Rp_map (fun _ => rb_callV2 hb hcl e) (h0 t hq)
  | some r => exact Rp_map (fun _ => rb_callV2 hb hcl e) (h1 r t hq)
theorem w_callV2L {v1 v2 : Value} {ci : Nat} {fs : List Value} {Q : Int64 → TS → Prop} (hb : w[q]? = some (.inl (ci, fs))) (hcl : ab_cl st = true) (hc : CL cal i [.ref q, v1, v2] w Q) (h : ∀ z t, Q z t → Rp B N k lv (.long z :: st) (mk t) P) : Rp B N (o_callV cal i 2 ci k) lv (v2 :: v1 :: .ref q :: st) w P := by
  obtain ⟨z, t, e, hq⟩ := hc
  exact Rp_map (fun _ => rb_callV2 hb hcl e) (h z t hq)
theorem w_callS3I {v1 v2 v3 : Value} {Q : Int → TS → Prop} (hcl : ab_cl st = true) (hc : CI cal i [v1, v2, v3] w Q) (h : ∀ z t, Q z t → Rp B N k lv (.int (jI z) :: st) (mk t) P) : Rp B N (o_callS cal i 3 k) lv (v3 :: v2 :: v1 :: st) w P := by
  obtain ⟨z, t, e, hq⟩ := hc
  exact Rp_map (fun _ => rb_callS3 hcl e) (h z t hq)
theorem w_callV3I {v1 v2 v3 : Value} {ci : Nat} {fs : List Value} {Q : Int → TS → Prop} (hb : w[q]? = some (.inl (ci, fs))) (hcl : ab_cl st = true) (hc : CI cal i [.ref q, v1, v2, v3] w Q) (h : ∀ z t, Q z t → Rp B N k lv (.int (jI z) :: st) (mk t) P) : Rp B N (o_callV cal i 3 ci k) lv (v3 :: v2 :: v1 :: .ref q :: st) w P := by
  obtain ⟨z, t, e, hq⟩ := hc
  exact Rp_map (fun _ => rb_callV3 hb hcl e) (h z t hq)
theorem w_callV3V {v1 v2 v3 : Value} {ci : Nat} {fs : List Value} {Q : TS → Prop} (hb : w[q]? = some (.inl (ci, fs))) (hcl : ab_cl st = true) (hc : CV cal i [.ref q, v1, v2, v3] w Q) (h : ∀ t, Q t → Rp B N k lv st (mk t) P) : Rp B N (o_callV cal i 3 ci k) lv (v3 :: v2 :: v1 :: .ref q :: st) w P := by
  obtain ⟨t, e, hq⟩ := hc
  exact Rp_map (fun _ => rb_callV3v hb hcl e) (h t hq)
theorem w_callS4I {v1 v2 v3 v4 : Value} {Q : Int → TS → Prop} (hcl : ab_cl st = true) (hc : CI cal i [v1, v2, v3, v4] w Q) (h : ∀ z t, Q z t → Rp B N k lv (.int (jI z) :: st) (mk t) P) : Rp B N (o_callS cal i 4 k) lv (v4 :: v3 :: v2 :: v1 :: st) w P := by
  obtain ⟨z, t, e, hq⟩ := hc
  exact Rp_map (fun _ => rb_callS4 hcl e) (h z t hq)
theorem w_callV4I {v1 v2 v3 v4 : Value} {ci : Nat} {fs : List Value} {Q : Int → TS → Prop} (hb : w[q]? = some (.inl (ci, fs))) (hcl : ab_cl st = true) (hc : CI cal i [.ref q, v1, v2, v3, v4] w Q) (h : ∀ z t, Q z t → Rp B N k lv (.int (jI z) :: st) (mk t) P) : Rp B N (o_callV cal i 4 ci k) lv (v4 :: v3 :: v2 :: v1 :: .ref q :: st) w P := by
  obtain ⟨z, t, e, hq⟩ := hc
  exact Rp_map (fun _ => rb_callV4 hb hcl e) (h z t hq)
theorem w_callS5I {v1 v2 v3 v4 v5 : Value} {Q : Int → TS → Prop} (hcl : ab_cl st = true) (hc : CI cal i [v1, v2, v3, v4, v5] w Q) (h : ∀ z t, Q z t → Rp B N k lv (.int (jI z) :: st) (mk t) P) : Rp B N (o_callS cal i 5 k) lv (v5 :: v4 :: v3 :: v2 :: v1 :: st) w P := by
  obtain ⟨z, t, e, hq⟩ := hc
  exact Rp_map (fun _ => rb_callS5 hcl e) (h z t hq)
theorem w_callV5I {v1 v2 v3 v4 v5 : Value} {ci : Nat} {fs : List Value} {Q : Int → TS → Prop} (hb : w[q]? = some (.inl (ci, fs))) (hcl : ab_cl st = true) (hc : CI cal i [.ref q, v1, v2, v3, v4, v5] w Q) (h : ∀ z t, Q z t → Rp B N k lv (.int (jI z) :: st) (mk t) P) : Rp B N (o_callV cal i 5 ci k) lv (v5 :: v4 :: v3 :: v2 :: v1 :: .ref q :: st) w P := by
  obtain ⟨z, t, e, hq⟩ := hc
  exact Rp_map (fun _ => rb_callV5 hb hcl e) (h z t hq)
end WC
