/-! ===== the class's reader as a function ===== -/
def lsP (f g : Nat → Int) : Nat → List (Int × Int)
  | 0 => []
  | h + 1 => (f h, g h) :: lsP f g h
theorem lsP_congr {f g f' g' : Nat → Int} : ∀ {n : Nat}, (∀ j, j < n → f j = f' j) → (∀ j, j < n → g j = g' j) → lsP f g n = lsP f' g' n
  | 0, _, _ => rfl
  | n + 1, h, h' => by
    unfold lsP
    rw [lsP_congr (fun j hj => h j (by omega)) (fun j hj => h' j (by omega)), h n (by omega), h' n (by omega)]
def cuR (t : TS) : PCu := (tI t 39 8, tI t 39 7, tI t 39 9, tI t 39 10)
def ouR (t : TS) : List (Int × Int) := lsP (tA t 40) (tA t 41) (tI t 39 4).toNat
def Rd (t : TS) : PPs := (cuR t, ouR t, tI t 39 5, tI t 39 0)
def kyN (t : TS) : Int := (tN t : Int) - 1000006
def RDt (t : TS) (M : Nat) (l o k : Int) (x : PPs) : PPs := RD (tA t 38) (tI t 37 1) (kyN t) M l o k x
def GE (t u : TS) : Prop := tA u 38 = tA t 38 ∧ tI u 37 1 = tI t 37 1 ∧ tN u = tN t
theorem GE.fr {S : List (Nat × Nat)} {t u : TS} (f : Fr S t u) (h1 : (38, 100) ∉ S) (h2 : (37, 1) ∉ S) (h3 : (39, 6) ∉ S) : GE t u := ⟨funext (f.2.1 38 h1), f.1 _ _ h2, f.2.2.2.1 h3⟩
theorem GE.rd {t u : TS} (h : GE t u) (M : Nat) (l o k : Int) (x : PPs) : RDt u M l o k x = RDt t M l o k x := by
  unfold RDt kyN
  rw [h.1, h.2.1, h.2.2]
def STp (t u : TS) : Prop := cuR u = stC (tA t 38) (tI t 37 1) (cuR t)
theorem st_mk {t u : TS} (h8 : tI u 39 8 = skF (tA t 38) (tI t 37 1) 97 (tI t 39 9)) (h7 : tI u 39 7 = soF (tA t 38) (tI t 37 1) (skF (tA t 38) (tI t 37 1) 97 (tI t 39 9))) (h9 : tI u 39 9 = spF (tA t 38) (tI t 37 1) (skF (tA t 38) (tI t 37 1) 97 (tI t 39 9))) (h10 : (tI u 39 10 = 1 ∧ (tI t 39 7 = 1 ∨ tI t 39 7 = 2) ∧ skF (tA t 38) (tI t 37 1) 97 (tI t 39 9) = tI t 39 9) ∨ (tI u 39 10 = 0 ∧ ¬ ((tI t 39 7 = 1 ∨ tI t 39 7 = 2) ∧ skF (tA t 38) (tI t 37 1) 97 (tI t 39 9) = tI t 39 9))) : STp t u := by
  have e : tI u 39 10 = if (tI t 39 7 = 1 ∨ tI t 39 7 = 2) ∧ skF (tA t 38) (tI t 37 1) 97 (tI t 39 9) = tI t 39 9 then 1 else 0 := by
    rcases h10 with h | h
    · rw [if_pos h.2, h.1]
    · rw [if_neg h.2, h.1]
  show (tI u 39 8, tI u 39 7, tI u 39 9, tI u 39 10) = _
  rw [h8, h7, h9, e]
  rfl
theorem rd_st {t u : TS} (f : Fr [(39, 7), (39, 8), (39, 9), (39, 10)] t u) (h : STp t u) : Rd u = stP (tA t 38) (tI t 37 1) (Rd t) := by
  unfold Rd stP
  have e : ouR u = ouR t := by
    unfold ouR
    rw [f.1 39 4 (by simp), funext (f.2.1 40 (by simp)), funext (f.2.1 41 (by simp))]
  rw [e, f.1 39 5 (by simp), f.1 39 0 (by simp), show cuR u = _ from h]
theorem em_mk {t t1 t2 u : TS} {x y s v : Int} (p1 : t1 = uA t 40 x.toNat s) (hx : x = tI t 39 4) (p2 : t2 = uA t1 41 y.toNat v) (hy : y = tI t1 39 4) (h3 : tA u = tA t2) (h4 : tI u 39 4 = tI t 39 4 + 1) (h0 : 0 ≤ tI t 39 4) : ouR u = (s, v) :: ouR t := by
  have hy2 : y = tI t 39 4 := by rw [hy, p1]; rfl
  unfold ouR
  rw [show (tI u 39 4).toNat = (tI t 39 4).toNat + 1 by omega]
  show (tA u 40 (tI t 39 4).toNat, tA u 41 (tI t 39 4).toNat) :: lsP (tA u 40) (tA u 41) (tI t 39 4).toNat = _
  have e40 : ∀ j, tA u 40 j = if j = (tI t 39 4).toNat then s else tA t 40 j := by
    intro j
    rw [h3, p2, tA_uA, if_neg (by omega), p1, tA_uA, hx]
    by_cases e : j = (tI t 39 4).toNat
    · rw [if_pos ⟨rfl, e⟩, if_pos e]
    · rw [if_neg (fun q => e q.2), if_neg e]
  have e41 : ∀ j, tA u 41 j = if j = (tI t 39 4).toNat then v else tA t 41 j := by
    intro j
    rw [h3, p2, tA_uA, hy2]
    by_cases e : j = (tI t 39 4).toNat
    · rw [if_pos ⟨rfl, e⟩, if_pos e]
    · rw [if_neg (fun q => e q.2), if_neg e, p1, tA_uA, if_neg (by omega)]
  rw [e40, e41, if_pos rfl, if_pos rfl]
  congr 1
  exact lsP_congr (fun j hj => by rw [e40, if_neg (by omega)]) (fun j hj => by rw [e41, if_neg (by omega)])
theorem rd_em {t u : TS} {s v : Int} (f : Fr [(39, 4), (40, 100), (41, 100)] t u) (h : ouR u = (s, v) :: ouR t) : Rd u = emP s v (Rd t) := by
  unfold Rd emP cuR
  rw [h, f.1 39 5 (by simp), f.1 39 0 (by simp), f.1 39 7 (by simp), f.1 39 8 (by simp), f.1 39 9 (by simp), f.1 39 10 (by simp)]
theorem rd_ft {t u : TS} {z : Int} (h : u = uI t 39 0 z) (hz : z = tI t 39 8) : Rd u = ftP (Rd t) := by
  subst h
  show (cuR (uI t 39 0 z), ouR (uI t 39 0 z), tI (uI t 39 0 z) 39 5, tI (uI t 39 0 z) 39 0) = _
  have e : tI (uI t 39 0 z) 39 0 = tI t 39 8 := by rw [tI_uI, if_pos ⟨rfl, rfl⟩, hz]
  rw [e]
  rfl
theorem rd_op {t u : TS} {z : Int} (h : u = uI t 39 5 z) (hz : z = tI t 39 5 + 1) : Rd u = ((Rd t).1, (Rd t).2.1, (Rd t).2.2.1 + 1, (Rd t).2.2.2) := by
  subst h
  show (cuR (uI t 39 5 z), ouR (uI t 39 5 z), tI (uI t 39 5 z) 39 5, tI (uI t 39 5 z) 39 0) = _
  have e : tI (uI t 39 5 z) 39 5 = tI t 39 5 + 1 := by rw [tI_uI, if_pos ⟨rfl, rfl⟩, hz]
  rw [e]
  rfl
theorem numF_sn {g : Nat → Int} {n i s : Int} (h : n = numF g s.toNat (i - s).toNat) (hs : 0 ≤ s) (hi : s ≤ i) : 10 * n + g i.toNat - 48 = numF g s.toNat (i + 1 - s).toNat := by
  rw [show (i + 1 - s).toNat = (i - s).toNat + 1 by omega]
  show _ = 10 * numF g s.toNat (i - s).toNat + g (s.toNat + (i - s).toNat) - 48
  rw [← h, show s.toNat + (i - s).toNat = i.toNat by omega]
def OPp (t u : TS) : Prop := Rd u = opP (tA t 38) (tI t 37 1) (kyN t) (Rd t)
def CLp (t u : TS) : Prop := Rd u = clP (tA t 38) (tI t 37 1) (Rd t)
def RPp (o k : Int) (t u : TS) : Prop := ∀ M : Nat, 7 * (8 - o) + (8 - k) < (M : Int) → Rd u = RDt t M 5 o k (Rd t)
def RLp (l o k : Int) (t u : TS) : Prop := ∀ M : Nat, 7 * (8 - o) + (8 - k) + (5 - l) < (M : Int) → Rd u = RDt t M l o k (Rd t)
theorem op_f {t u : TS} (h : tI t 39 10 = 1 ∨ (¬ (tI t 39 7 = 2 ∧ tI t 39 9 - tI t 39 8 ≤ 4) ∧ ¬ (tI t 39 7 = 1 ∧ tI t 39 9 - tI t 39 8 = 1 ∧ ¬ nmF (kyN t) (tA t 38 (tI t 39 8).toNat) = -1))) (r : Rd u = ftP (Rd t)) : OPp t u := by
  unfold OPp opP
  by_cases e : (Rd t).1.2.2.2 = 1
  · rw [if_pos e]; exact r
  · rw [if_neg e]
    rcases h with h | h
    · exact absurd h e
    · have a1 : ¬ ((Rd t).1.2.1 = 2 ∧ (Rd t).1.2.2.1 - (Rd t).1.1 ≤ 4) := h.1
      have a2 : ¬ ((Rd t).1.2.1 = 1 ∧ (Rd t).1.2.2.1 - (Rd t).1.1 = 1 ∧ ¬ nmF (kyN t) (tA t 38 (Rd t).1.1.toNat) = -1) := h.2
      rw [if_neg a1, if_neg a2]; exact r
theorem op_n {t a b u : TS} {s v : Int} (h : ¬ tI t 39 10 = 1) (k : ((tI t 39 7 = 2 ∧ tI t 39 9 - tI t 39 8 ≤ 4) ∧ s = 0 ∧ v = numF (tA t 38) (tI t 39 8).toNat (tI t 39 9 - tI t 39 8).toNat) ∨ (tI t 39 7 = 1 ∧ tI t 39 9 - tI t 39 8 = 1 ∧ ¬ v = -1 ∧ s = 1 ∧ v = nmF (kyN t) (tA t 38 (tI t 39 8).toNat))) (r1 : Rd a = emP s v (Rd t)) (r2 : Rd b = ((Rd a).1, (Rd a).2.1, (Rd a).2.2.1 + 1, (Rd a).2.2.2)) (ga : GE t b) (r3 : Rd u = stP (tA b 38) (tI b 37 1) (Rd b)) : OPp t u := by
  rw [ga.1, ga.2.1, r2, r1] at r3
  unfold OPp opP
  have a0 : ¬ (Rd t).1.2.2.2 = 1 := h
  rw [if_neg a0]
  rcases k with k | k
  · have a1 : (Rd t).1.2.1 = 2 ∧ (Rd t).1.2.2.1 - (Rd t).1.1 ≤ 4 := k.1
    rw [if_pos a1, r3, k.2.1, k.2.2]
    rfl
  · obtain ⟨k1, k2, k3, k4, k5⟩ := k
    have a1 : ¬ ((Rd t).1.2.1 = 2 ∧ (Rd t).1.2.2.1 - (Rd t).1.1 ≤ 4) := fun e => by have e1 : tI t 39 7 = 2 := e.1; omega
    have a2 : (Rd t).1.2.1 = 1 ∧ (Rd t).1.2.2.1 - (Rd t).1.1 = 1 ∧ ¬ nmF (kyN t) (tA t 38 (Rd t).1.1.toNat) = -1 := ⟨k1, k2, fun e => k3 (k5.trans e)⟩
    rw [if_neg a1, if_pos a2, r3, k4, k5]
    rfl
theorem cl_f {t : TS} (h : ¬ tI t 39 0 = -1) : CLp t t := by
  unfold CLp clP
  have a0 : ¬ (Rd t).2.2.2 = -1 := h
  rw [if_pos a0]
theorem cl_s {t u : TS} {s : Int} (h : tI t 39 0 = -1) (hs : s = siF (tA t 38) (tI t 37 1) (cuR t)) (h41 : s = 41) (r : Rd u = stP (tA t 38) (tI t 37 1) (Rd t)) : CLp t u := by
  unfold CLp clP
  have a0 : ¬ ¬ (Rd t).2.2.2 = -1 := fun e => e h
  have a1 : siF (tA t 38) (tI t 37 1) (Rd t).1 = 41 := hs.symm.trans h41
  rw [if_neg a0, if_pos a1]
  exact r
theorem cl_x {t u : TS} {s : Int} (h : tI t 39 0 = -1) (hs : s = siF (tA t 38) (tI t 37 1) (cuR t)) (h41 : ¬ s = 41) (r : Rd u = ftP (Rd t)) : CLp t u := by
  unfold CLp clP
  have a0 : ¬ ¬ (Rd t).2.2.2 = -1 := fun e => e h
  have a1 : ¬ siF (tA t 38) (tI t 37 1) (Rd t).1 = 41 := fun e => h41 (hs.trans e)
  rw [if_neg a0, if_neg a1]
  exact r
theorem RD_5 (g : Nat → Int) (n q : Int) (m : Nat) (o k : Int) (x : PPs) : RD g n q (m + 1) 5 o k x = (if siF g n x.1 = 33 ∧ k < 8 then emP 33 0 (RD g n q m 5 o (k + 1) (stP g n x)) else if siF g n x.1 = 40 ∧ o < 8 then clP g n (RD g n q m 0 (o + 1) k (stP g n x)) else opP g n q x) := by
  show (if (5 : Int) ≤ 5 then _ else LPx g n (RD g n q m (5 + 1) o k) 5 (if (5 : Int) = 2 then 1 else 96) (RD g n q m (5 + 1) o k x)) = _
  rw [if_pos (by decide)]
theorem pc_not {t a b c : TS} {o k s : Int} (hr : o ≤ 8 ∧ k ≤ 8) (es : s = siF (tA t 38) (tI t 37 1) (cuR t)) (h33 : s = 33) (hk : k < 8) (r1 : Rd a = stP (tA t 38) (tI t 37 1) (Rd t)) (g1 : GE t a) (r2 : RPp o (k + 1) a b) (r3 : Rd c = emP 33 0 (Rd b)) : RPp o k t c := by
  intro M hM
  obtain ⟨m, rfl⟩ : ∃ m, M = m + 1 := ⟨M - 1, by omega⟩
  rw [r3, r2 m (by omega), g1.rd, r1]
  have a0 : siF (tA t 38) (tI t 37 1) (Rd t).1 = 33 ∧ k < 8 := ⟨es.symm.trans h33, hk⟩
  unfold RDt
  rw [RD_5, if_pos a0]
theorem pc_par {t a b c : TS} {o k s : Int} (hr : o ≤ 8 ∧ k ≤ 8) (es : s = siF (tA t 38) (tI t 37 1) (cuR t)) (h40 : s = 40) (ho : o < 8) (r1 : Rd a = stP (tA t 38) (tI t 37 1) (Rd t)) (g1 : GE t a) (r2 : RLp 0 (o + 1) k a b) (g2 : GE t b) (r3 : CLp b c) : RPp o k t c := by
  intro M hM
  obtain ⟨m, rfl⟩ : ∃ m, M = m + 1 := ⟨M - 1, by omega⟩
  have r3' : Rd c = clP (tA b 38) (tI b 37 1) (Rd b) := r3
  rw [r3', g2.1, g2.2.1, r2 m (by omega), g1.rd, r1]
  have a1 : siF (tA t 38) (tI t 37 1) (Rd t).1 = 40 ∧ o < 8 := ⟨es.symm.trans h40, ho⟩
  have a0 : ¬ (siF (tA t 38) (tI t 37 1) (Rd t).1 = 33 ∧ k < 8) := fun e => by have e1 := e.1; have e2 := a1.1; omega
  unfold RDt
  rw [RD_5, if_neg a0, if_pos a1]
theorem pc_opd {t c : TS} {o k s : Int} (hr : o ≤ 8 ∧ k ≤ 8) (es : s = siF (tA t 38) (tI t 37 1) (cuR t)) (h33 : ¬ (s = 33 ∧ k < 8)) (h40 : ¬ (s = 40 ∧ o < 8)) (r : OPp t c) : RPp o k t c := by
  intro M hM
  obtain ⟨m, rfl⟩ : ∃ m, M = m + 1 := ⟨M - 1, by omega⟩
  rw [es] at h33 h40
  have r' : Rd c = opP (tA t 38) (tI t 37 1) (kyN t) (Rd t) := r
  rw [r']
  have a0 : ¬ (siF (tA t 38) (tI t 37 1) (Rd t).1 = 33 ∧ k < 8) := h33
  have a1 : ¬ (siF (tA t 38) (tI t 37 1) (Rd t).1 = 40 ∧ o < 8) := h40
  unfold RDt
  rw [RD_5, if_neg a0, if_neg a1]
theorem lv_pc {t c : TS} {l o k : Int} (hl : l = 5) (r : RPp o k t c) : RLp l o k t c := by
  subst hl
  exact fun M hM => r M (by omega)
def LVp (t c : TS) (l o k most i : Int) : Prop := ∀ M : Nat, 7 * (8 - o) + (8 - k) + (5 - l) < (M : Int) + 1 → LPx (tA t 38) (tI t 37 1) (RDt t M (l + 1) o k) l (most - i).toNat (Rd c) = LPx (tA t 38) (tI t 37 1) (RDt t M (l + 1) o k) l most.toNat (RDt t M (l + 1) o k (Rd t))
theorem lv_0 {t b : TS} {l o k most i : Int} (hi : i = 0) (r : RLp (l + 1) o k t b) : LVp t b l o k most i := by
  intro M hM
  subst hi
  rw [r M (by omega), show most - 0 = most by omega]
theorem lv_n {t c a b d : TS} {l o k most i sg : Int} (h : LVp t c l o k most i) (g0 : GE t c) (hf : tI c 39 0 = -1) (es : sg = siF (tA c 38) (tI c 37 1) (cuR c)) (hl : lvF sg = l) (hi : i < most) (r1 : Rd a = stP (tA c 38) (tI c 37 1) (Rd c)) (g1 : GE t a) (r2 : RLp (l + 1) o k a b) (r3 : Rd d = emP sg 0 (Rd b)) : LVp t d l o k most (i + 1) := by
  intro M hM
  rw [← h M hM, show (most - i).toNat = (most - (i + 1)).toNat + 1 by omega]
  rw [g0.1, g0.2.1] at r1 es
  show _ = (if (Rd c).2.2.2 = -1 ∧ lvF (siF (tA t 38) (tI t 37 1) (cuR c)) = l then _ else _)
  rw [if_pos ⟨hf, by rw [← es]; exact hl⟩, r3, r2 M (by omega), g1.rd, r1, es]
  rfl
theorem lv_e {t c : TS} {l o k most i : Int} (hr : o ≤ 8 ∧ k ≤ 8) (h : LVp t c l o k most i) (g0 : GE t c) (h5 : l < 5) (hm : (l = 2 ∧ most = 1) ∨ (¬ l = 2 ∧ most = 96)) (hx : most ≤ i ∨ ¬ tI c 39 0 = -1 ∨ ¬ lvF (siF (tA c 38) (tI c 37 1) (cuR c)) = l) : RLp l o k t c := by
  intro M hM
  obtain ⟨m, rfl⟩ : ∃ m, M = m + 1 := ⟨M - 1, by omega⟩
  have e := h m (by omega)
  rw [g0.1, g0.2.1] at hx
  have e1 : LPx (tA t 38) (tI t 37 1) (RDt t m (l + 1) o k) l (most - i).toNat (Rd c) = Rd c := by
    rcases hx with hx | hx | hx
    · rw [show (most - i).toNat = 0 by omega]; rfl
    · exact LP_f hx _
    · cases (most - i).toNat with
      | zero => rfl
      | succ j =>
        show (if (Rd c).2.2.2 = -1 ∧ lvF (siF (tA t 38) (tI t 37 1) (cuR c)) = l then _ else _) = _
        rw [if_neg (fun q => hx q.2)]
  rw [e1] at e
  rw [e]
  show _ = (if (5 : Int) ≤ l then _ else LPx (tA t 38) (tI t 37 1) (RDt t m (l + 1) o k) l (if l = 2 then 1 else 96) (RDt t m (l + 1) o k (Rd t)))
  rw [if_neg (by omega)]
  rcases hm with q | q
  · rw [if_pos q.1, q.2]; rfl
  · rw [if_neg q.1, q.2]; rfl
theorem wd_y {t : TS} {j : Nat} {w i : Int} (h1 : tI t 39 7 = 1) (h2 : tI t 39 9 - tI t 39 8 = w) (h3 : WDp (tA t 38) j (tI t 39 8) i) (h4 : i = w) : kyW (tA t 38) (cuR t) j w := by
  subst h4
  exact ⟨h1, h2, h3⟩
theorem wd_n {t : TS} {j : Nat} {w : Int} (h : ¬ (tI t 39 7 = 1 ∧ tI t 39 9 - tI t 39 8 = w)) : ¬ kyW (tA t 38) (cuR t) j w := fun k => h ⟨k.1, k.2.1⟩
theorem wd_x {t : TS} {j : Nat} {w i : Int} (hi : 0 ≤ i ∧ i < w) (h : ¬ tA t 38 (tI t 39 8 + i).toNat = wdF j i) : ¬ kyW (tA t 38) (cuR t) j w := fun k => h (k.2.2 i hi.1 hi.2)
