/-! ===== best: signs of the program ===== -/
theorem sm_d : ∀ k : Nat, k < 12 → (jI (k : Int) &&& 31).toBitVec.smod 32 = BitVec.ofNat 32 k := by decide
theorem bt_d {a k : Nat} (hk : k < 12) : fZ (fun x y => x &&& y) (fZ (fun x y => x >>> (y &&& 31)) (a : Int) (k : Int)) 1 = if a.testBit k then 1 else 0 := by
  show (jI ((jI (a : Int) >>> (jI (k : Int) &&& 31)).toInt) &&& jI 1).toInt = _
  rw [jI_self, jI_nat a]
  have ea : (nI a).toBitVec = BitVec.ofNat 32 a := Int32.toBitVec_ofNat' ..
  have e1 : (jI 1).toBitVec = BitVec.twoPow 32 0 := by decide
  have e2 : (nI a >>> (jI (k : Int) &&& 31)).toBitVec = (BitVec.ofNat 32 a).sshiftRight k := by
    rw [Int32.toBitVec_shiftRight, ea, sm_d k hk]
    show BitVec.sshiftRight _ (BitVec.ofNat 32 k).toNat = _
    rw [BitVec.toNat_ofNat, Nat.mod_eq_of_lt (by omega)]
  have e3 : (nI a >>> (jI (k : Int) &&& 31) &&& jI 1).toBitVec = if a.testBit k then 1#32 else 0#32 := by
    rw [Int32.toBitVec_and, e1, e2, BitVec.and_twoPow, BitVec.getLsbD_sshiftRight, BitVec.getLsbD_ofNat]
    have h32 : k < 32 := by omega
    have e4 : BitVec.twoPow 32 0 = 1#32 := by decide
    rw [e4]
    simp [h32]
  show (nI a >>> (jI (k : Int) &&& 31) &&& jI 1).toBitVec.toInt = _
  rw [e3]
  split <;> rfl
theorem mk_d {a b s : Nat} (hs : s < 12) : (fZ (fun x y => x &&& y) (fZ (fun x y => x &&& y) (a : Int) (fZ (fun x y => x ^^^ y) (b : Int) (-1))) (fZ (fun x y => x <<< (y &&& 31)) 1 (s : Int)) = 0) ↔ ¬ (a.testBit s = true ∧ ¬ b.testBit s = true) := by
  rw [shl_pow s (by omega)]
  show ((jI ((jI (a : Int) &&& jI ((jI (b : Int) ^^^ jI (-1)).toInt)).toInt) &&& jI ((2 ^ s : Nat) : Int)).toInt = 0) ↔ _
  rw [jI_self, jI_self, jI_nat, jI_nat, jI_nat]
  have e0 : ∀ x : Int32, x.toInt = 0 ↔ x.toBitVec = 0#32 := fun x => by
    constructor
    · intro h
      have h2 : x = 0 := Int32.toInt_inj.mp (by rw [h]; rfl)
      rw [h2]; rfl
    · intro h
      have h2 : x = 0 := Int32.toBitVec_inj.mp (by rw [h]; rfl)
      rw [h2]; rfl
  rw [e0]
  have e1 : (nI (2 ^ s)).toBitVec = BitVec.twoPow 32 s := by
    apply BitVec.eq_of_toNat_eq
    show (Int32.ofNat (2 ^ s)).toBitVec.toNat = _
    rw [Int32.toBitVec_ofNat', BitVec.toNat_ofNat, BitVec.toNat_twoPow]
  have e2 : (jI (-1)).toBitVec = BitVec.allOnes 32 := by decide
  rw [Int32.toBitVec_and, Int32.toBitVec_and, Int32.toBitVec_xor, e1, e2, BitVec.and_twoPow]
  have ea : (nI a).toBitVec = BitVec.ofNat 32 a := Int32.toBitVec_ofNat' ..
  have eb : (nI b).toBitVec = BitVec.ofNat 32 b := Int32.toBitVec_ofNat' ..
  rw [ea, eb, BitVec.getLsbD_and, BitVec.getLsbD_xor, BitVec.getLsbD_allOnes, BitVec.getLsbD_ofNat, BitVec.getLsbD_ofNat]
  have h32 : s < 32 := by omega
  have tp : ¬ BitVec.twoPow 32 s = 0#32 := fun h => by
    have := congrArg (fun x => BitVec.getLsbD x s) h
    simp [h32] at this
  cases ha : a.testBit s <;> cases hb : b.testBit s <;> simp [h32, tp]
theorem bt_i {e p z1 z2 : Int} (he : 0 ≤ e) (hp : 0 ≤ p ∧ p ≤ 11) (h1 : z1 = fZ (fun x y => x >>> (y &&& 31)) e p) (h2 : z2 = fZ (fun x y => x &&& y) z1 1) : (z2 = 0 ∧ e.toNat.testBit p.toNat = false) ∨ (z2 = 1 ∧ e.toNat.testBit p.toNat = true) := by
  obtain ⟨a, rfl⟩ := Int.eq_ofNat_of_zero_le he
  obtain ⟨k, rfl⟩ := Int.eq_ofNat_of_zero_le hp.1
  have b := bt_d (a := a) (k := k) (by omega)
  rw [h2, h1, b]
  show (_ ∧ a.testBit k = false) ∨ (_ ∧ a.testBit k = true)
  cases a.testBit k
  · exact Or.inl ⟨rfl, rfl⟩
  · exact Or.inr ⟨rfl, rfl⟩
theorem sh_i {p z : Int} (hp : 0 ≤ p ∧ p ≤ 12) (h : z = fZ (fun x y => x <<< (y &&& 31)) 1 p) : z = ((2 ^ p.toNat : Nat) : Int) := by
  obtain ⟨k, rfl⟩ := Int.eq_ofNat_of_zero_le hp.1
  rw [h, shl_pow k (by omega)]
  rfl
theorem mk_i {lay e s z1 z2 z3 z4 : Int} (hl : 0 ≤ lay) (he : 0 ≤ e) (hs : 0 ≤ s ∧ s ≤ 11) (h1 : z1 = fZ (fun x y => x ^^^ y) e (-1)) (h2 : z2 = fZ (fun x y => x &&& y) lay z1) (h3 : z3 = fZ (fun x y => x <<< (y &&& 31)) 1 s) (h4 : z4 = fZ (fun x y => x &&& y) z2 z3) : z4 = 0 ↔ ¬ (lay.toNat.testBit s.toNat = true ∧ ¬ e.toNat.testBit s.toNat = true) := by
  obtain ⟨a, rfl⟩ := Int.eq_ofNat_of_zero_le hl
  obtain ⟨b, rfl⟩ := Int.eq_ofNat_of_zero_le he
  obtain ⟨k, rfl⟩ := Int.eq_ofNat_of_zero_le hs.1
  rw [h4, h2, h1, h3]
  exact mk_d (by omega)
theorem or_i {e s n z1 z2 : Int} (he : 0 ≤ e) (hs : 0 ≤ s ∧ s < n) (hn : n ≤ 12) (hE : e < ((2 ^ n.toNat : Nat) : Int)) (h1 : z1 = fZ (fun x y => x <<< (y &&& 31)) 1 s) (h2 : z2 = fZ (fun x y => x ||| y) e z1) : z2 = ((e.toNat ||| 2 ^ s.toNat : Nat) : Int) ∧ z2 < ((2 ^ n.toNat : Nat) : Int) ∧ z2 ≤ 4095 := by
  obtain ⟨a, rfl⟩ := Int.eq_ofNat_of_zero_le he
  obtain ⟨k, rfl⟩ := Int.eq_ofNat_of_zero_le hs.1
  have hN : 2 ^ n.toNat ≤ 2 ^ 12 := Nat.pow_le_pow_right (by decide) (by omega)
  have hK : 2 ^ k < 2 ^ n.toNat := Nat.pow_lt_pow_right (by decide) (by omega)
  have ha : a < 2 ^ n.toNat := by omega
  have ho := Nat.or_lt_two_pow ha hK
  rw [h2, h1, shl_pow k (by omega), or_nat (by omega) (by omega)]
  exact ⟨rfl, by omega, by omega⟩
theorem bc_i {x k n z1 z2 : Int} (hx : 0 ≤ x) (hk : 0 ≤ k ∧ k ≤ 11) (hn : n = (bcN x.toNat k.toNat : Int)) (h1 : z1 = fZ (fun x y => x >>> (y &&& 31)) x k) (h2 : z2 = fZ (fun x y => x &&& y) z1 1) : n + z2 = (bcN x.toNat (k + 1).toNat : Int) := by
  have b := bt_i hx hk h1 h2
  rw [show (k + 1).toNat = k.toNat + 1 by omega]
  show _ = ((bcN x.toNat k.toNat + if x.toNat.testBit k.toNat then 1 else 0 : Nat) : Int)
  rcases b with b | b
  · rw [b.2, if_neg (by decide)]; omega
  · rw [b.2, if_pos rfl]; omega
theorem bc_b (a : Nat) : ∀ k : Nat, bcN a k ≤ k
  | 0 => Nat.le_refl _
  | k + 1 => by
    have ih := bc_b a k
    show bcN a k + (if a.testBit k then 1 else 0) ≤ k + 1
    split <;> omega
theorem p2_6 {m : Int} (hm : 1 ≤ m ∧ m ≤ 6) : 2 ≤ 2 ^ m.toNat ∧ 2 ^ m.toNat ≤ 64 := by
  have h1 : 2 ^ m.toNat ≤ 2 ^ 6 := Nat.pow_le_pow_right (by decide) (by omega)
  have h2 : 2 ^ 1 ≤ 2 ^ m.toNat := Nat.pow_le_pow_right (by decide) (by omega)
  omega
theorem p2_12 {n : Int} (hn : n ≤ 12) : 1 ≤ 2 ^ n.toNat ∧ 2 ^ n.toNat ≤ 4096 := by
  have h1 : 2 ^ n.toNat ≤ 2 ^ 12 := Nat.pow_le_pow_right (by decide) (by omega)
  have h2 : 0 < 2 ^ n.toNat := Nat.pow_pos (by decide)
  omega
/-! the class -/
def LCm (t : TS) (m : Int) : Nat → Prop := fun s => tA t 5 s = 12 ∨ tA t 5 s < m
def cCm (t : TS) : Nat → Nat → Int := fun s p => min (OC t 1 s p 0) (OC t 1 s p 1)
def osF (t : TS) : Nat → Nat → Int := fun s p => 16 * cCm t s p + if p = 0 then (s : Int) else 0
theorem oc_r {t : TS} (ok : OK t) (s p u : Nat) : 0 ≤ OC t 1 s p u ∧ OC t 1 s p u ≤ 198 := by
  have d : ∀ i, 0 ≤ tA t 9 i ∧ tA t 9 i ≤ 99 := fun i => ok.a (ae_9 i)
  have w : ∀ i, 0 ≤ tA t 8 i ∧ tA t 8 i ≤ 99 := fun i => ok.a (ae_8 i)
  show 0 ≤ ofF (tA t 9) (tA t 8) s p u ∧ ofF (tA t 9) (tA t 8) s p u ≤ 198
  unfold ofF
  have a1 := ab_r (x := tA t 9 (((s : Int) * 4 + (p : Int) / 3) * 2 + (u : Int)).toNat - tA t 8 (2 * (p : Int)).toNat) (by have := d (((s : Int) * 4 + (p : Int) / 3) * 2 + (u : Int)).toNat; have := w (2 * (p : Int)).toNat; omega)
  have a2 := ab_r (x := tA t 9 (((s : Int) * 4 + (p : Int) / 3) * 2 + (1 - (u : Int))).toNat - tA t 8 (2 * (p : Int) + 1).toNat) (by have := d (((s : Int) * 4 + (p : Int) / 3) * 2 + (1 - (u : Int))).toNat; have := w (2 * (p : Int) + 1).toNat; omega)
  omega
theorem cC_r {t : TS} (ok : OK t) (s p : Nat) : 0 ≤ cCm t s p ∧ cCm t s p ≤ 198 := by
  have h1 := oc_r ok s p 0
  have h2 := oc_r ok s p 1
  unfold cCm
  omega
theorem os_r {t : TS} (ok : OK t) (s p : Nat) : 0 ≤ osF t s p := by
  have := cC_r ok s p
  unfold osF
  split <;> omega
theorem osF_fr {S : List (Nat × Nat)} {t u : TS} (f : Fr S t u) (h8 : (8, 100) ∉ S) (h9 : (9, 100) ∉ S) : osF u = osF t := by
  unfold osF cCm
  rw [oc_fr (b := 1) f h8 h9]
theorem os_s {t u v : TS} {p s z x : Int} (h : ∀ q : Nat, (q : Int) < p → tA u 36 q = osF t s.toNat q) (hp : 0 ≤ p) (hs : 0 ≤ s) (e : v = uA u 36 p.toNat x) (hz : z = cCm t s.toNat p.toNat) (hx : (p = 0 ∧ x = 16 * z + s) ∨ (¬ p = 0 ∧ x = 16 * z)) : ∀ q : Nat, (q : Int) < p + 1 → tA v 36 q = osF t s.toNat q := by
  intro q hq
  rw [e, tA_uA]
  by_cases w : q = p.toNat
  · rw [if_pos ⟨rfl, w⟩, w]
    unfold osF
    rw [← hz]
    rcases hx with k | k
    · rw [if_pos (by omega)]; omega
    · rw [if_neg (by omega)]; omega
  · rw [if_neg (fun k => w k.2)]
    exact h q (by omega)
theorem mnF_0 (W o : Nat → Int) : ∀ k : Nat, mnF W o 0 k = W 0
  | 0 => rfl
  | k + 1 => by
    show (if (0 : Nat).testBit k then _ else mnF W o 0 k) = _
    rw [Nat.zero_testBit, if_neg (by decide)]
    exact mnF_0 W o k
theorem mn_n {W o : Nat → Int} {e p : Int} (hp : 0 ≤ p) (h : e.toNat.testBit p.toNat = false) : mnF W o e.toNat (p + 1).toNat = mnF W o e.toNat p.toNat := by
  rw [show (p + 1).toNat = p.toNat + 1 by omega]
  show (if e.toNat.testBit p.toNat then _ else _) = _
  rw [h, if_neg (by decide)]
theorem mn_y {W o : Nat → Int} {e p : Int} (hp : 0 ≤ p) (h : e.toNat.testBit p.toNat = true) : mnF W o e.toNat (p + 1).toNat = min (mnF W o e.toNat p.toNat) (W (e.toNat - 2 ^ p.toNat) + o p.toNat) := by
  rw [show (p + 1).toNat = p.toNat + 1 by omega]
  show (if e.toNat.testBit p.toNat then _ else _) = _
  rw [h, if_pos rfl]
theorem mn_r {t : TS} (ok : OK t) {W : Nat → Int} {e p s m : Int} (hm : 1 ≤ m ∧ m ≤ 6) (he : e < ((2 ^ m.toNat : Nat) : Int)) (h0 : 0 ≤ e) (hp : 0 ≤ p ∧ p ≤ m) (hW : ∀ a : Nat, a < 64 → 0 ≤ W a ∧ W a ≤ 16777216) : 0 ≤ mnF W (osF t s.toNat) e.toNat p.toNat ∧ mnF W (osF t s.toNat) e.toNat p.toNat ≤ 16777216 := by
  have h64 := p2_6 hm
  exact mnF_r (m := m.toNat) (by omega) (by omega) (fun b hb => hW b (by omega)) (fun q _ => os_r ok _ q) p.toNat (by omega)
theorem cw_n {t : TS} {m s : Int} {W : Nat → Int} (h : CW (LCm t m) (osF t) m.toNat s.toNat W) (h0 : 0 ≤ s) (hn : ¬ tA t 5 s.toNat = 12 ∧ m ≤ tA t 5 s.toNat) : CW (LCm t m) (osF t) m.toNat (s + 1).toNat W := by
  rw [show (s + 1).toNat = s.toNat + 1 by omega]
  exact CW_n h (fun k => by unfold LCm at k; omega)
theorem cw_y {t : TS} {m s : Int} {W W' : Nat → Int} (ok : OK t) (hm : 1 ≤ m ∧ m ≤ 6) (h : CW (LCm t m) (osF t) m.toNat s.toNat W) (h0 : 0 ≤ s) (hy : tA t 5 s.toNat = 12 ∨ tA t 5 s.toNat < m) (e : ∀ a : Nat, a < 2 ^ m.toNat → W' a = mnF W (osF t s.toNat) a m.toNat) : CW (LCm t m) (osF t) m.toNat (s + 1).toNat W' := by
  rw [show (s + 1).toNat = s.toNat + 1 by omega]
  exact CW_y (by omega) h hy (fun p _ => os_r ok _ p) e
theorem cw_r {t : TS} {m s : Int} {W : Nat → Int} (h : CW (LCm t m) (osF t) m.toNat s.toNat W) {a : Nat} (ha : a < 2 ^ m.toNat) : 0 ≤ W a ∧ W a ≤ 16777216 := (h a ha).1
theorem cw_e {t u : TS} {m w x z s k : Int} (ok : OK t) (hm : 1 ≤ m ∧ m ≤ 6) (h : CW (LCm t m) (osF t) m.toNat s.toNat (tA u 35)) (hs : s = tI t 1 10) (hn : tI t 1 10 ≤ 12) (hk : k = ((2 ^ m.toNat : Nat) : Int)) (hx : x = tA u 35 (k - 1).toNat) (hz : (16777216 ≤ x ∧ z = -1000000005) ∨ (x < 16777216 ∧ w = 0 ∧ z = x / 16) ∨ (x < 16777216 ∧ ¬ w = 0 ∧ z = x % 16)) : BAp (LCm t m) (cCm t) (tI t 1 10).toNat m.toNat w z := by
  have h2 := p2_6 hm
  subst hs
  refine CW_e (o := osF t) (by omega) (by omega) h (fun _ _ => rfl) (fun s p _ _ => cC_r ok s p) (x := x) ?_ hz
  rw [hx, hk, show (((2 ^ m.toNat : Nat) : Int) - 1).toNat = 2 ^ m.toNat - 1 by omega]
/-! the reference -/
def LRm (t : TS) (m : Int) : Nat → Prop := fun s => tA t 69 (32 + 5 * s) = 12 ∨ tA t 69 (32 + 5 * s) < m
def cRm (t : TS) : Nat → Nat → Int := fun s p => min (OA t 69 s p 0) (OA t 69 s p 1)
def LMk (t : TS) (m x : Int) : Prop := 0 ≤ x ∧ x ≤ 4095 ∧ ∀ s : Nat, s < 12 → (x.toNat.testBit s = true ↔ ((s : Int) < tA t 69 1 ∧ LRm t m s))
def LMs (t : TS) (m x s : Int) : Prop := 0 ≤ x ∧ x ≤ 4095 ∧ ∀ i : Nat, x.toNat.testBit i = true ↔ ((i : Int) < s ∧ LRm t m i)
theorem lm_0 (t : TS) (m : Int) : LMs t m 0 0 := ⟨by decide, by decide, fun i => by
  rw [show (0 : Int).toNat = 0 from rfl, Nat.zero_testBit]
  constructor
  · intro h; cases h
  · intro h; omega⟩
theorem lm_s {t : TS} {m x s y z : Int} (h : LMs t m x s) (hs : 0 ≤ s ∧ s ≤ 11) (hy : (y = fZ (fun x y => x <<< (y &&& 31)) 1 s ∧ LRm t m s.toNat) ∨ (y = 0 ∧ ¬ LRm t m s.toNat)) (hz : z = fZ (fun x y => x ||| y) x y) : LMs t m z (s + 1) := by
  obtain ⟨h1, h2, h3⟩ := h
  obtain ⟨a, rfl⟩ := Int.eq_ofNat_of_zero_le h1
  obtain ⟨k, rfl⟩ := Int.eq_ofNat_of_zero_le hs.1
  have h3' : ∀ i : Nat, a.testBit i = true ↔ ((i : Int) < k ∧ LRm t m i) := h3
  rcases hy with ⟨hy, hL⟩ | ⟨hy, hL⟩
  · have hL' : LRm t m k := hL
    have hK : 2 ^ k < 2 ^ 12 := Nat.pow_lt_pow_right (by decide) (by omega)
    have ho := Nat.or_lt_two_pow (show a < 2 ^ 12 by omega) hK
    rw [hz, hy, shl_pow k (by omega), or_nat (by omega) (by omega)]
    refine ⟨by omega, by omega, fun i => ?_⟩
    show (a ||| 2 ^ k).testBit i = true ↔ _
    rw [Nat.testBit_or, Bool.or_eq_true, h3', Nat.testBit_two_pow, decide_eq_true_eq]
    constructor
    · rintro (w | w)
      · exact ⟨by omega, w.2⟩
      · subst w; exact ⟨by omega, hL'⟩
    · intro w
      by_cases q : k = i
      · exact Or.inr q
      · exact Or.inl ⟨by omega, w.2⟩
  · have hL' : ¬ LRm t m k := hL
    have hz2 := or_nat (a := a) (b := 0) (by omega) (by decide)
    rw [Nat.or_zero] at hz2
    rw [hz, hy, show (0 : Int) = ((0 : Nat) : Int) from rfl, hz2]
    refine ⟨by omega, by omega, fun i => ?_⟩
    show a.testBit i = true ↔ _
    rw [h3']
    constructor
    · exact fun w => ⟨by omega, w.2⟩
    · intro w
      by_cases q : k = i
      · subst q; exact absurd w.2 hL'
      · exact ⟨by omega, w.2⟩
theorem lm_e {t : TS} {m x s : Int} (h : LMs t m x s) (hs : s = tA t 69 1) : LMk t m x := by
  subst hs
  exact ⟨h.1, h.2.1, fun i _ => h.2.2 i⟩
def CRt (t u : TS) (m : Int) : Prop := ∀ s p : Nat, (s : Int) < tA t 69 1 → (p : Int) < m → tA u 73 (12 * s + p) = cRm t s p
def RIt (t u : TS) (m e best least : Int) : Prop := RI (LRm t m) (cRm t) (tA t 69 1).toNat m.toNat e.toNat (tA u 72) best least
def RJt (t u : TS) (m e s best least : Int) : Prop := RJ (LRm t m) (cRm t) (tA t 69 1).toNat m.toNat e.toNat s.toNat (tA u 72) best least
theorem sr_r {L : Nat → Prop} {c : Nat → Nat → Int} {n m : Nat} {f : Nat → Nat} (hc : ∀ s p, s < n → p < m → 0 ≤ c s p ∧ c s p ≤ 198) : ∀ j : Nat, j ≤ m → OkR L n m j f → 0 ≤ srR c m f j ∧ srR c m f j ≤ 198 * j
  | 0, _, _ => ⟨Int.le_refl _, Int.le_refl _⟩
  | j + 1, hj, h => by
    have ih := sr_r hc j (by omega) (h.le (by omega))
    have r := hc (f (m - 1 - j)) (m - 1 - j) (h.1 j (by omega)).1 (by omega)
    show 0 ≤ srR c m f j + c (f (m - 1 - j)) (m - 1 - j) ∧ srR c m f j + c (f (m - 1 - j)) (m - 1 - j) ≤ _
    omega
theorem ri_0 {t u : TS} {m least : Int} (hm : 1 ≤ m) (h : ∀ a : Nat, a < 2 ^ (tA t 69 1).toNat → tA u 72 a = if a = 0 then 0 else -1) : RIt t u m 0 (-1) least := by
  have hp : 0 < 2 ^ (tA t 69 1).toNat := Nat.pow_pos (by decide)
  exact RI_0 (by omega) (by rw [h 0 hp, if_pos rfl]) (fun a h1 h2 => by rw [h a h2, if_neg (by omega)])
theorem ri_mv {t u v : TS} {m e best least : Int} (h : RIt t u m e best least) (f : ∀ i, tA v 72 i = tA u 72 i) : RIt t v m e best least := by
  unfold RIt at h ⊢
  rw [funext f]
  exact h
theorem rj_0 {t u : TS} {m e best least : Int} (h : RIt t u m e best least) : RJt t u m e 0 best least := RJ_0 h
theorem rj_e {t u : TS} {m e s best least : Int} (hm : 1 ≤ m) (he : 0 ≤ e) (h : RJt t u m e s best least) (hs : s = tA t 69 1) : RIt t u m (e + 1) best least := by
  unfold RIt
  rw [show (e + 1).toNat = e.toNat + 1 by omega]
  subst hs
  exact RJ_e (by omega) h
theorem rj_k {t u : TS} {m e s best least left b x : Int} (hm : 1 ≤ m) (he : 0 ≤ e) (hn : tA t 69 1 ≤ 12) (h : RJt t u m e s best least) (hb : b = (bcN e.toNat 12 : Int)) (hl : left = m - 1 - b) (hk : left < 0 ∨ (x = tA u 72 e.toNat ∧ x < 0)) : RIt t u m (e + 1) best least := by
  unfold RIt
  rw [show (e + 1).toNat = e.toNat + 1 by omega]
  exact RJ_k (left := left) (by omega) (by omega) h (by omega) (hk.imp id (fun k => by rw [← k.1]; exact k.2))
theorem rj_n {t u : TS} {m e s best least lay z : Int} (hm : 1 ≤ m) (he : 0 ≤ e) (hs : 0 ≤ s ∧ s ≤ 11 ∧ s < tA t 69 1) (h : RJt t u m e s best least) (hy : LMk t m lay) (hz : z = 0 ↔ ¬ (lay.toNat.testBit s.toNat = true ∧ ¬ e.toNat.testBit s.toNat = true)) (h0 : z = 0) : RJt t u m e (s + 1) best least := by
  unfold RJt
  rw [show (s + 1).toNat = s.toNat + 1 by omega]
  refine RJ_n (by omega) h (fun k => hz.mp h0 ⟨(hy.2.2 s.toNat (by omega)).mpr ⟨by omega, k.1⟩, k.2⟩)
theorem ms_y {t : TS} {m lay e s z : Int} (hs : 0 ≤ s ∧ s ≤ 11) (hy : LMk t m lay) (hz : z = 0 ↔ ¬ (lay.toNat.testBit s.toNat = true ∧ ¬ e.toNat.testBit s.toNat = true)) (h0 : ¬ z = 0) : LRm t m s.toNat ∧ ¬ e.toNat.testBit s.toNat = true := by
  by_cases k : lay.toNat.testBit s.toNat = true ∧ ¬ e.toNat.testBit s.toNat = true
  · exact ⟨((hy.2.2 s.toNat (by omega)).mp k.1).2, k.2⟩
  · exact absurd (hz.mpr k) h0
theorem cr_r {t u : TS} {m : Int} (ok : OK u) (h : CRt t u m) : ∀ s p : Nat, s < (tA t 69 1).toNat → p < m.toNat → 0 ≤ cRm t s p ∧ cRm t s p ≤ 198 := fun s p hs hp => by
  rw [← h s p (by omega) (by omega)]
  exact ok.a (ae_73 _)
theorem rj_r {t u : TS} {m e s best least x : Int} (ok : OK u) (hm : 1 ≤ m ∧ m ≤ 6) (he : 0 ≤ e) (hE : e < ((2 ^ (tA t 69 1).toNat : Nat) : Int)) (h : RJt t u m e s best least) (hc : CRt t u m) (hx : x = tA u 72 e.toNat) (h0 : 0 ≤ x) : x ≤ 1188 := by
  rw [hx] at h0
  obtain ⟨j, f, h1, h2, h3, h4⟩ := h.1.2.1 e.toNat (by omega) h0
  have r := sr_r (cr_r ok hc) j (by omega) h2
  rw [hx, ← h4]
  omega
theorem rj_b {t u : TS} {m e s best least left b x lay z cst sum b2 l2 : Int} (hm : 1 ≤ m ∧ m ≤ 6) (he : 0 ≤ e) (hE : e < ((2 ^ (tA t 69 1).toNat : Nat) : Int)) (hn : tA t 69 1 ≤ 12) (hs : 0 ≤ s ∧ s ≤ 11 ∧ s < tA t 69 1) (h : RJt t u m e s best least) (hb : b = (bcN e.toNat 12 : Int)) (hl : left = m - 1 - b) (hx : x = tA u 72 e.toNat) (hx0 : 0 ≤ x) (hy : LMk t m lay) (hz : z = 0 ↔ ¬ (lay.toNat.testBit s.toNat = true ∧ ¬ e.toNat.testBit s.toNat = true)) (h0 : ¬ z = 0) (hcs : cst = cRm t s.toNat left.toNat) (hsum : sum = x + cst) (hl0 : left = 0) (hv : ((best < 0 ∨ sum < least ∨ (sum = least ∧ s < best)) ∧ b2 = s ∧ l2 = sum) ∨ (¬ (best < 0 ∨ sum < least ∨ (sum = least ∧ s < best)) ∧ b2 = best ∧ l2 = least)) : RJt t u m e (s + 1) b2 l2 := by
  have k := ms_y ⟨hs.1, hs.2.1⟩ hy hz h0
  unfold RJt
  rw [show (s + 1).toNat = s.toNat + 1 by omega]
  refine RJ_b (left := left) (sum := sum) (by omega) h (by omega) (by omega) (by omega) (by rw [← hx]; exact hx0) (by omega) k.1 k.2 hl0 ?_ ?_
  · rw [hsum, hcs, hx, show left.toNat = 0 by omega]
  · rw [Int.toNat_of_nonneg hs.1]; exact hv
theorem rj_x {t u v : TS} {m e s best least left b x lay z cst sum g y : Int} (ok : OK u) (hm : 1 ≤ m ∧ m ≤ 6) (he : 0 ≤ e) (hE : e < ((2 ^ (tA t 69 1).toNat : Nat) : Int)) (hn : tA t 69 1 ≤ 12) (hs : 0 ≤ s ∧ s ≤ 11 ∧ s < tA t 69 1) (h : RJt t u m e s best least) (hb : b = (bcN e.toNat 12 : Int)) (hl : left = m - 1 - b) (hx : x = tA u 72 e.toNat) (hx0 : 0 ≤ x) (hy : LMk t m lay) (hz : z = 0 ↔ ¬ (lay.toNat.testBit s.toNat = true ∧ ¬ e.toNat.testBit s.toNat = true)) (h0 : ¬ z = 0) (hcr : CRt t u m) (hcs : cst = cRm t s.toNat left.toNat) (hsum : sum = x + cst) (hl0 : 0 ≤ left ∧ ¬ left = 0) (hg : g = ((e.toNat ||| 2 ^ s.toNat : Nat) : Int)) (hyg : y = tA u 72 g.toNat) (hv : ((y < 0 ∨ sum < y) ∧ v = uA u 72 g.toNat sum) ∨ (¬ (y < 0 ∨ sum < y) ∧ v = u)) : RJt t v m e (s + 1) best least := by
  have k := ms_y ⟨hs.1, hs.2.1⟩ hy hz h0
  unfold RJt
  rw [show (s + 1).toNat = s.toNat + 1 by omega]
  refine RJ_x (left := left) (sum := sum) (G := g.toNat) (X := tA u 72) (by omega) h (by omega) (by omega) (by omega) (by rw [← hx]; exact hx0) (by omega) k.1 k.2 (by omega) (by omega) (by rw [hsum, hcs, hx]) (cr_r ok hcr s.toNat left.toNat (by omega) (by omega)).1 ?_
  rw [← hyg]
  rcases hv with ⟨w1, w2⟩ | ⟨w1, w2⟩
  · exact Or.inl ⟨w1, fun a => by rw [w2, tA_uA]; simp⟩
  · exact Or.inr ⟨w1, fun a => by rw [w2]⟩
theorem ri_a {t u : TS} {m e best least w z : Int} (hm : 1 ≤ m) (he : e = ((2 ^ (tA t 69 1).toNat : Nat) : Int)) (h : RIt t u m e best least) (hz : (best < 0 ∧ z = -1000000005) ∨ (0 ≤ best ∧ w = 0 ∧ z = least) ∨ (0 ≤ best ∧ ¬ w = 0 ∧ z = best)) : BAp (LRm t m) (cRm t) (tA t 69 1).toNat m.toNat w z := RI_a (by omega) (by rw [he, Int.toNat_natCast]) h hz
