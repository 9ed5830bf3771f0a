section
theorem ar_eta (c i : Nat) : AR c i = ((AR c i).1, (AR c i).2) := rfl
def shF : Int → Int := fU (fun x => x.toInt16.toInt32)
def modF (x y : Int) : Int := fZ (fun x y => x - x / y * y) x y
theorem shl_r {y z : Int} (hy : 0 ≤ y ∧ y ≤ 12) (h : z = fZ (fun x y => x <<< (y &&& 31)) 1 y) : 1 ≤ z ∧ z ≤ 4096 ∧ (y ≤ 6 → z ≤ 64) ∧ (1 ≤ y → 2 ≤ z) := by
  have h6 : y = 0 ∨ y = 1 ∨ y = 2 ∨ y = 3 ∨ y = 4 ∨ y = 5 ∨ y = 6 ∨ y = 7 ∨ y = 8 ∨ y = 9 ∨ y = 10 ∨ y = 11 ∨ y = 12 := by omega
  subst h
  rcases h6 with rfl | rfl | rfl | rfl | rfl | rfl | rfl | rfl | rfl | rfl | rfl | rfl | rfl <;> decide
set_option maxRecDepth 100000 in
theorem bit_sub0 : ∀ n : Nat, n < 64 → ∀ m : Nat, m < 6 → ¬ fZ (fun x y => x &&& y) (fZ (fun x y => x >>> (y &&& 31)) (n : Int) (m : Int)) 1 = 0 → fZ (fun x y => x <<< (y &&& 31)) 1 (m : Int) ≤ (n : Int) := by decide +kernel
theorem bit_sub {s p z1 z2 z3 : Int} (hs : 0 ≤ s ∧ s ≤ 63) (hp : 0 ≤ p ∧ p ≤ 5) (h1 : z1 = fZ (fun x y => x >>> (y &&& 31)) s p) (h2 : z2 = fZ (fun x y => x &&& y) z1 1) (h3 : ¬ z2 = 0) (h4 : z3 = fZ (fun x y => x <<< (y &&& 31)) 1 p) : z3 ≤ s := by
  obtain ⟨n, rfl⟩ := Int.eq_ofNat_of_zero_le hs.1
  obtain ⟨m, rfl⟩ := Int.eq_ofNat_of_zero_le hp.1
  subst h1 h2 h4
  exact bit_sub0 n (by omega) m (by omega) h3
set_option maxRecDepth 100000 in
set_option maxHeartbeats 4000000 in
theorem c_J7_fill_53178 {d : Nat} {t : TS} {v : Int} {c gc : Nat}  (hc : ∀ u, AI c 0 gc u) (ok : OK t) (q0 : ∀ i, (AR c i).1 ≤ v ∧ v ≤ (AR c i).2) : CV (EX FU (d + 1)) 250 [.ref c, .int (jI v)] (mk t) (fun t' => OK t' ∧ Fr [(c, 100)] t t' ∧ (∀ m : Nat, m < gc → tA t' c m = v)) := by
  refine CV_ent (d := d + 0) (Bk := bJ7_fill_53178) (nL := 4) rfl rfl rfl (Nat.le_of_ble_eq_true rfl) ?_
  show Rn _ 1000000 0 [some (.ref c), some (.int (jI v)), none, none] [] _ _
  have fr : Fr [(c, 100)] t t := Fr.rf _ _
  have hg := (hc t).2.2.2
  refine w_step rfl ?_
  refine w_push kc_0 ?_
  refine w_istore (lv' := [some (.ref c), some (.int (jI v)), some (.int (jI 0)), none]) rfl ?_
  refine w_aload rfl ?_
  refine w_alen (hc _) ?_
  refine w_istore (lv' := [some (.ref c), some (.int (jI v)), some (.int (jI 0)), some (.int (jI (gc : Int)))]) rfl ?_
  refine w_goto ?_
  have key1 : ∀ (n1 M1 : Nat) (i : Int) (t1 : TS), OK t1 → Fr [(c, 100)] t t1 → (0 ≤ i) → (i ≤ (gc : Int)) → (∀ m : Nat, (m : Int) < i → tA t1 c m = v) → (gc : Int) - i < (n1 : Int) → 20 * n1 + (100) ≤ M1 → Rn (bJ7_fill_53178 (EX FU (d + 0))) M1 1 [some (.ref c), some (.int (jI v)), some (.int (jI i)), some (.int (jI (gc : Int)))] [] (mk t1) (PV (fun t' => OK t' ∧ Fr [(c, 100)] t t' ∧ (∀ m : Nat, m < gc → tA t' c m = v))) := by
    intro n1
    induction n1 with
    | zero => intro M1 i t1 ok1 fr1 i1_0 i1_1 i1_2 v1 f1; exfalso; first | omega | exact q0 _
    | succ n1 ih1 =>
      intro M1 i t1 ok1 fr1 i1_0 i1_1 i1_2 v1 f1
      obtain ⟨M1, rfl⟩ : ∃ m, M1 = m + 20 := ⟨M1 - 20, by omega⟩
      refine w_step rfl ?_
      refine w_iload rfl ?_
      refine w_iload rfl ?_
      refine w_cge (by first | omega | exact q0 _) (fun h2 => ?_) (fun h2 => ?_)
      · skip
        refine w_step rfl ?_
        refine w_retV ?_
        exact ⟨ok1, fr1, (fun m hm => i1_2 m (by omega))⟩
      refine w_aload rfl ?_
      refine w_iload rfl ?_
      refine w_iload rfl ?_
      refine w_iast (i := (i).toNat) (hc _) rfl (by first | omega | exact q0 _) (by first | omega | exact q0 _) (ar_eta _ _) ok1 (by first | omega | exact q0 _) (fun t3 ht3 ok3 => ?_)
      have fr3 := fr1.uA ht3 (by simp)
      refine w_iinc (lv' := [some (.ref c), some (.int (jI v)), some (.int (jI (i + 1))), some (.int (jI (gc : Int)))]) kc_1 rfl rfl ?_
      refine w_goto ?_
      exact ih1 _ (i + 1) t3 ok3 fr3 (by first | omega | exact q0 _) (by first | omega | exact q0 _) (by intro m hm; rw [ht3, tA_uA]; split <;> first | rfl | exact i1_2 m (by omega)) (by first | omega | exact q0 _) (by first | omega | exact q0 _)
  exact key1 (gc + 1) _ 0 t ok fr (by first | omega | exact q0 _) (by first | omega | exact q0 _) (by intro m hm; omega) (by first | omega | exact q0 _) (by first | omega | exact q0 _)
set_option maxRecDepth 100000 in
set_option maxHeartbeats 4000000 in
theorem c_X2_isMissing {d : Nat} {t : TS} {b : Nat}  (hb : isH b) (ok : OK t) : CI (EX FU (d + 1)) 21 [.ref b] (mk t) (fun z t' => t = t' ∧ ((z = 0 ∧ ¬ (tI t b 1 = -1)) ∨ (z = 1 ∧ (tI t b 1 = -1)))) := by
  refine CI_ent (d := d + 0) (Bk := bX2_isMissing) (nL := 1) rfl rfl rfl (Nat.le_of_ble_eq_true rfl) ?_
  show Rn _ 1000000 0 [some (.ref b)] [] _ _
  refine w_step rfl ?_
  refine w_aload rfl ?_
  refine w_getI (gH_1 hb _) (feH_1 hb) ok (fun z1 hz1 hl1 hh1 => ?_)
  refine w_push kc_m1 ?_
  refine w_cne (by omega) (fun h2 => ?_) (fun h2 => ?_)
  · skip
    refine w_step rfl ?_
    refine w_push kc_0 ?_
    refine w_goto ?_
    refine w_step rfl ?_
    refine w_retI rfl ?_
    exact ⟨rfl, (by omega)⟩
  refine w_push kc_1 ?_
  refine w_goto ?_
  refine w_step rfl ?_
  refine w_retI rfl ?_
  exact ⟨rfl, (by omega)⟩
set_option maxRecDepth 100000 in
set_option maxHeartbeats 4000000 in
theorem c_X2_become {d : Nat} {t : TS} {b : Nat} {s n : Int}  (hb : isH b) (ok : OK t) (q0 : -1 ≤ s) (q1 : s ≤ 1) (q2 : 0 ≤ n) (q3 : n ≤ 24) : CV (EX FU (d + 2)) 22 [.ref b, .int (jI s), .int (jI n)] (mk t) (fun t' => OK t' ∧ Fr [(b, 1), (b, 2), (b + 1, 100)] t t' ∧ (tI t' b 1 = s) ∧ (tI t' b 2 = n) ∧ (∀ i : Nat, i < 24 → tA t' (b + 1) i = 0)) := by
  refine CV_ent (d := d + 1) (Bk := bX2_become) (nL := 3) rfl rfl rfl (Nat.le_of_ble_eq_true rfl) ?_
  show Rn _ 1000000 0 [some (.ref b), some (.int (jI s)), some (.int (jI n))] [] _ _
  have fr : Fr [(b, 1), (b, 2), (b + 1, 100)] t t := Fr.rf _ _
  refine w_step rfl ?_
  refine w_aload rfl ?_
  refine w_iload rfl ?_
  refine w_putI (pH_1 hb _) (feH_1 hb) ok (by omega) (fun t1 ht1 ok1 => ?_)
  have fr1 := fr.uI ht1 (by simp)
  refine w_aload rfl ?_
  refine w_iload rfl ?_
  refine w_putI (pH_2 hb _) (feH_2 hb) ok1 (by omega) (fun t2 ht2 ok2 => ?_)
  have fr2 := fr1.uI ht2 (by simp)
  refine w_aload rfl ?_
  refine w_getR (gH_0 hb _) ?_
  refine w_push kc_0 ?_
  refine w_callS2V rfl (c_J7_fill_53178 (fun u => aiH_1 hb u) ok2 (by intro i; rw [(aeH_1 hb i)]; exact ⟨by decide, by decide⟩)) ?_
  rintro t3 ⟨ok3, fq3, hp3_0⟩
  have fr3 := fr2.then fq3 (by simp)
  have fqd := fq3
  have hfd := hp3_0
  refine w_retV ?_
  exact ⟨ok3, fr3, (by rw [fqd.1 b 1 (by simp)]; subst_vars; simp [tI_uI]), (by rw [fqd.1 b 2 (by simp)]; subst_vars; simp [tI_uI]), hfd⟩
set_option maxRecDepth 100000 in
set_option maxHeartbeats 4000000 in
theorem c_X2_becomeLike {d : Nat} {t : TS} {b : Nat} {o : Nat}  (hb : isH b) (ho : isH o) (ok : OK t) (q0 : ¬ b = o) (q1 : ¬ b + 1 = o + 1) : CV (EX FU (d + 1)) 23 [.ref b, .ref o] (mk t) (fun t' => OK t' ∧ Fr [(b, 1), (b, 2), (b + 1, 100)] t t' ∧ (tI t' b 2 = tI t o 2) ∧ (∀ i : Nat, i < 24 → tA t' (b + 1) i = tA t (o + 1) i)) := by
  refine CV_ent (d := d + 0) (Bk := bX2_becomeLike) (nL := 2) rfl rfl rfl (Nat.le_of_ble_eq_true rfl) ?_
  show Rn _ 1000000 0 [some (.ref b), some (.ref o)] [] _ _
  have fr : Fr [(b, 1), (b, 2), (b + 1, 100)] t t := Fr.rf _ _
  refine w_step rfl ?_
  refine w_aload rfl ?_
  refine w_aload rfl ?_
  refine w_getI (gH_1 ho _) (feH_1 ho) ok (fun z1 hz1 hl1 hh1 => ?_)
  refine w_putI (pH_1 hb _) (feH_1 hb) ok (by omega) (fun t2 ht2 ok2 => ?_)
  have fr2 := fr.uI ht2 (by simp)
  refine w_aload rfl ?_
  refine w_aload rfl ?_
  refine w_getI (gH_2 ho _) (feH_2 ho) ok2 (fun z3 hz3 hl3 hh3 => ?_)
  refine w_putI (pH_2 hb _) (feH_2 hb) ok2 (by omega) (fun t4 ht4 ok4 => ?_)
  have fr4 := fr2.uI ht4 (by simp)
  refine w_aload rfl ?_
  refine w_getR (gH_0 ho _) ?_
  refine w_push kc_0 ?_
  refine w_aload rfl ?_
  refine w_getR (gH_0 hb _) ?_
  refine w_push kc_0 ?_
  refine w_push kc_24 ?_
  refine w_acopy (s := 0) (d := 0) (m := 24) (aiH_1 ho _) (aiH_1 hb _) (by omega) (by omega) (by omega) (by omega) (by omega) rfl ok4 (fun i _ _ => by have hXq := ok4.a (c := (o + 1)) (i := 0 + (i - 0)) (aeH_1 ho _); rw [(aeH_1 hb _)]; exact hXq) (fun t5 ht5 ok5 => ?_)
  have fr5 := fr4.uR ht5 (by simp)
  refine w_retV ?_
  exact ⟨ok5, fr5, (by subst_vars; simp [tI_uI, tI_uR, q0, Ne.symm q0]), (by intro i hi; subst_vars; simp [tA_uR, tA_uI, hi])⟩
set_option maxRecDepth 100000 in
set_option maxHeartbeats 4000000 in
theorem c_X2_write {d : Nat} {t : TS} {b : Nat} {p v : Int}  (hb : isH b) (ok : OK t) (q0 : 0 ≤ p) (q1 : p ≤ 23) (q2 : -2147483648 ≤ v) (q3 : v ≤ 2147483647) : CI (EX FU (d + 1)) 24 [.ref b, .int (jI p), .int (jI v)] (mk t) (fun z t' => OK t' ∧ Fr [(b + 1, 100)] t t' ∧ (z = 1) ∧ (t' = uA t (b + 1) p.toNat v)) := by
  refine CI_ent (d := d + 0) (Bk := bX2_write) (nL := 3) rfl rfl rfl (Nat.le_of_ble_eq_true rfl) ?_
  show Rn _ 1000000 0 [some (.ref b), some (.int (jI p)), some (.int (jI v))] [] _ _
  have fr : Fr [(b + 1, 100)] t t := Fr.rf _ _
  refine w_step rfl ?_
  refine w_aload rfl ?_
  refine w_getR (gH_0 hb _) ?_
  refine w_iload rfl ?_
  refine w_iload rfl ?_
  refine w_iast (i := (p).toNat) (aiH_1 hb _) rfl (by omega) (by omega) (aeH_1 hb _) ok (by omega) (fun t1 ht1 ok1 => ?_)
  have fr1 := fr.uA ht1 (by simp)
  refine w_push kc_1 ?_
  refine w_retI rfl ?_
  exact ⟨ok1, fr1, (by omega), (by assumption)⟩
set_option maxRecDepth 100000 in
set_option maxHeartbeats 4000000 in
theorem c_X2_hasPlaces {d : Nat} {t : TS} {b : Nat} {p m : Int}  (hb : isH b) (ok : OK t) (q0 : -2147483648 ≤ p) (q1 : p ≤ 2147483647) (q2 : -2147483648 ≤ m) (q3 : m ≤ 2147483647) : CI (EX FU (d + 2)) 26 [.ref b, .int (jI p), .int (jI m)] (mk t) (fun z t' => t = t' ∧ ((z = 0 ∧ ¬ (0 ≤ p ∧ p ≤ tI t b 2 ∧ 0 ≤ m ∧ m ≤ tI t b 2 - p)) ∨ (z = 1 ∧ (0 ≤ p ∧ p ≤ tI t b 2 ∧ 0 ≤ m ∧ m ≤ tI t b 2 - p)))) := by
  refine CI_ent (d := d + 1) (Bk := bX2_hasPlaces) (nL := 3) rfl rfl rfl (Nat.le_of_ble_eq_true rfl) ?_
  show Rn _ 1000000 0 [some (.ref b), some (.int (jI p)), some (.int (jI m))] [] _ _
  refine w_step rfl ?_
  refine w_iload rfl ?_
  refine w_push kc_0 ?_
  refine w_aload rfl ?_
  refine w_getI (gH_2 hb _) (feH_2 hb) ok (fun z1 hz1 hl1 hh1 => ?_)
  refine w_callS3I rfl (c_X8_within ok (by omega) (by omega) (by omega) (by omega) (by omega) (by omega)) ?_
  rintro z2 t2 ⟨rfl, hp2_0⟩
  rcases hp2_0 with ⟨rfl, hp2_0⟩ | ⟨rfl, hp2_0⟩
  · skip
    refine w_ieq (by omega) (fun _ => ?_) (fun h => absurd (by omega) h)
    refine w_step rfl ?_
    refine w_push kc_0 ?_
    refine w_goto ?_
    refine w_step rfl ?_
    refine w_retI rfl ?_
    exact ⟨rfl, (by omega)⟩
  refine w_ieq (by omega) (fun h => absurd h (by omega)) (fun _ => ?_)
  refine w_iload rfl ?_
  refine w_push kc_0 ?_
  refine w_aload rfl ?_
  refine w_getI (gH_2 hb _) (feH_2 hb) ok (fun z3 hz3 hl3 hh3 => ?_)
  refine w_iload rfl ?_
  refine w_sub ?_
  refine w_callS3I rfl (c_X8_within ok (by omega) (by omega) (by omega) (by omega) (by omega) (by omega)) ?_
  rintro z4 t4 ⟨rfl, hp4_0⟩
  rcases hp4_0 with ⟨rfl, hp4_0⟩ | ⟨rfl, hp4_0⟩
  · skip
    refine w_ieq (by omega) (fun _ => ?_) (fun h => absurd (by omega) h)
    refine w_step rfl ?_
    refine w_push kc_0 ?_
    refine w_goto ?_
    refine w_step rfl ?_
    refine w_retI rfl ?_
    exact ⟨rfl, (by omega)⟩
  refine w_ieq (by omega) (fun h => absurd h (by omega)) (fun _ => ?_)
  refine w_push kc_1 ?_
  refine w_goto ?_
  refine w_step rfl ?_
  refine w_retI rfl ?_
  exact ⟨rfl, (by omega)⟩
set_option maxRecDepth 100000 in
set_option maxHeartbeats 4000000 in
theorem c_X3_takeStone {d : Nat} {t : TS} {b : Nat} {k l r : Int}  (hb : isL b) (ok : OK t) (q0 : 0 ≤ k) (q1 : k ≤ 5) (q2 : 0 ≤ l) (q3 : l ≤ 6) (q4 : 0 ≤ r) (q5 : r ≤ 6) : CV (EX FU (d + 1)) 28 [.ref b, .int (jI k), .int (jI l), .int (jI r)] (mk t) (fun t' => OK t' ∧ Fr [(b, 2), (b, 3), (b, 4)] t t' ∧ (tI t' b 2 = k) ∧ (tI t' b 3 = l) ∧ (tI t' b 4 = r)) := by
  refine CV_ent (d := d + 0) (Bk := bX3_takeStone) (nL := 4) rfl rfl rfl (Nat.le_of_ble_eq_true rfl) ?_
  show Rn _ 1000000 0 [some (.ref b), some (.int (jI k)), some (.int (jI l)), some (.int (jI r))] [] _ _
  have fr : Fr [(b, 2), (b, 3), (b, 4)] t t := Fr.rf _ _
  refine w_step rfl ?_
  refine w_aload rfl ?_
  refine w_iload rfl ?_
  refine w_putI (pL_2 hb _) (feL_2 hb) ok (by omega) (fun t1 ht1 ok1 => ?_)
  have fr1 := fr.uI ht1 (by simp)
  refine w_aload rfl ?_
  refine w_iload rfl ?_
  refine w_putI (pL_3 hb _) (feL_3 hb) ok1 (by omega) (fun t2 ht2 ok2 => ?_)
  have fr2 := fr1.uI ht2 (by simp)
  refine w_aload rfl ?_
  refine w_iload rfl ?_
  refine w_putI (pL_4 hb _) (feL_4 hb) ok2 (by omega) (fun t3 ht3 ok3 => ?_)
  have fr3 := fr2.uI ht3 (by simp)
  refine w_retV ?_
  exact ⟨ok3, fr3, (by subst_vars; simp [tI_uI]), (by subst_vars; simp [tI_uI]), (by subst_vars; simp [tI_uI])⟩
set_option maxRecDepth 100000 in
set_option maxHeartbeats 4000000 in
theorem c_X4_become_24_1 {d : Nat} {t : TS}  (ok : OK t) : CV (EX FU (d + 1)) 30 [.ref 24, .ref 1] (mk t) (fun t' => OK t' ∧ Fr [(24, 10), (24, 11), (24, 12), (24, 13), (24, 14), (25, 100), (26, 100), (27, 100), (28, 100), (29, 100), (30, 100), (31, 100), (32, 100), (34, 100), (33, 101)] t t' ∧ (tI t' 24 10 = tI t 1 10) ∧ (tI t' 24 11 = tI t 1 11) ∧ (tI t' 24 12 = tI t 1 12) ∧ (tI t' 24 13 = tI t 1 13) ∧ (tI t' 24 14 = tI t 1 14) ∧ (∀ i : Nat, i < 12 → tA t' 25 i = tA t 2 i) ∧ (∀ i : Nat, i < 12 → tA t' 26 i = tA t 3 i) ∧ (∀ i : Nat, i < 12 → tA t' 27 i = tA t 4 i) ∧ (∀ i : Nat, i < 12 → tA t' 28 i = tA t 5 i) ∧ (∀ i : Nat, i < 12 → tA t' 29 i = tA t 6 i) ∧ (∀ i : Nat, i < 12 → tA t' 30 i = tA t 7 i) ∧ (∀ i : Nat, i < 24 → tA t' 31 i = tA t 8 i) ∧ (∀ i : Nat, i < 96 → tA t' 32 i = tA t 9 i) ∧ (∀ i : Nat, i < 3 → tA t' 34 i = tA t 11 i) ∧ (∀ i : Nat, i < 14 → tT t' 33 i = tT t 10 i)) := by
  refine CV_ent (d := d + 0) (Bk := bX4_become) (nL := 3) rfl rfl rfl (Nat.le_of_ble_eq_true rfl) ?_
  show Rn _ 1000000 0 [some (.ref 24), some (.ref 1), none] [] _ _
  have fr : Fr [(24, 10), (24, 11), (24, 12), (24, 13), (24, 14), (25, 100), (26, 100), (27, 100), (28, 100), (29, 100), (30, 100), (31, 100), (32, 100), (34, 100), (33, 101)] t t := Fr.rf _ _
  refine w_step rfl ?_
  refine w_aload rfl ?_
  refine w_getR (g_1_0 _) ?_
  refine w_push kc_0 ?_
  refine w_aload rfl ?_
  refine w_getR (g_24_0 _) ?_
  refine w_push kc_0 ?_
  refine w_push kc_12 ?_
  refine w_acopy (s := 0) (d := 0) (m := 12) (ai_2 _) (ai_25 _) (by omega) (by omega) (by omega) (by omega) (by omega) rfl ok (fun i _ _ => by have hXq := ok.a (c := 2) (i := 0 + (i - 0)) (ae_2 _); rw [(ae_25 _)]; exact hXq) (fun t1 ht1 ok1 => ?_)
  have fr1 := fr.uR ht1 (by simp)
  refine w_aload rfl ?_
  refine w_getR (g_1_1 _) ?_
  refine w_push kc_0 ?_
  refine w_aload rfl ?_
  refine w_getR (g_24_1 _) ?_
  refine w_push kc_0 ?_
  refine w_push kc_12 ?_
  refine w_acopy (s := 0) (d := 0) (m := 12) (ai_3 _) (ai_26 _) (by omega) (by omega) (by omega) (by omega) (by omega) rfl ok1 (fun i _ _ => by have hXq := ok1.a (c := 3) (i := 0 + (i - 0)) (ae_3 _); rw [(ae_26 _)]; exact hXq) (fun t2 ht2 ok2 => ?_)
  have fr2 := fr1.uR ht2 (by simp)
  refine w_aload rfl ?_
  refine w_getR (g_1_2 _) ?_
  refine w_push kc_0 ?_
  refine w_aload rfl ?_
  refine w_getR (g_24_2 _) ?_
  refine w_push kc_0 ?_
  refine w_push kc_12 ?_
  refine w_acopy (s := 0) (d := 0) (m := 12) (ai_4 _) (ai_27 _) (by omega) (by omega) (by omega) (by omega) (by omega) rfl ok2 (fun i _ _ => by have hXq := ok2.a (c := 4) (i := 0 + (i - 0)) (ae_4 _); rw [(ae_27 _)]; exact hXq) (fun t3 ht3 ok3 => ?_)
  have fr3 := fr2.uR ht3 (by simp)
  refine w_aload rfl ?_
  refine w_getR (g_1_3 _) ?_
  refine w_push kc_0 ?_
  refine w_aload rfl ?_
  refine w_getR (g_24_3 _) ?_
  refine w_push kc_0 ?_
  refine w_push kc_12 ?_
  refine w_acopy (s := 0) (d := 0) (m := 12) (ai_5 _) (ai_28 _) (by omega) (by omega) (by omega) (by omega) (by omega) rfl ok3 (fun i _ _ => by have hXq := ok3.a (c := 5) (i := 0 + (i - 0)) (ae_5 _); rw [(ae_28 _)]; exact hXq) (fun t4 ht4 ok4 => ?_)
  have fr4 := fr3.uR ht4 (by simp)
  refine w_aload rfl ?_
  refine w_getR (g_1_4 _) ?_
  refine w_push kc_0 ?_
  refine w_aload rfl ?_
  refine w_getR (g_24_4 _) ?_
  refine w_push kc_0 ?_
  refine w_push kc_12 ?_
  refine w_acopy (s := 0) (d := 0) (m := 12) (ai_6 _) (ai_29 _) (by omega) (by omega) (by omega) (by omega) (by omega) rfl ok4 (fun i _ _ => by have hXq := ok4.a (c := 6) (i := 0 + (i - 0)) (ae_6 _); rw [(ae_29 _)]; exact hXq) (fun t5 ht5 ok5 => ?_)
  have fr5 := fr4.uR ht5 (by simp)
  refine w_aload rfl ?_
  refine w_getR (g_1_5 _) ?_
  refine w_push kc_0 ?_
  refine w_aload rfl ?_
  refine w_getR (g_24_5 _) ?_
  refine w_push kc_0 ?_
  refine w_push kc_12 ?_
  refine w_acopy (s := 0) (d := 0) (m := 12) (ai_7 _) (ai_30 _) (by omega) (by omega) (by omega) (by omega) (by omega) rfl ok5 (fun i _ _ => by have hXq := ok5.a (c := 7) (i := 0 + (i - 0)) (ae_7 _); rw [(ae_30 _)]; exact hXq) (fun t6 ht6 ok6 => ?_)
  have fr6 := fr5.uR ht6 (by simp)
  refine w_aload rfl ?_
  refine w_getR (g_1_6 _) ?_
  refine w_push kc_0 ?_
  refine w_aload rfl ?_
  refine w_getR (g_24_6 _) ?_
  refine w_push kc_0 ?_
  refine w_push kc_24 ?_
  refine w_acopy (s := 0) (d := 0) (m := 24) (ai_8 _) (ai_31 _) (by omega) (by omega) (by omega) (by omega) (by omega) rfl ok6 (fun i _ _ => by have hXq := ok6.a (c := 8) (i := 0 + (i - 0)) (ae_8 _); rw [(ae_31 _)]; exact hXq) (fun t7 ht7 ok7 => ?_)
  have fr7 := fr6.uR ht7 (by simp)
  refine w_aload rfl ?_
  refine w_getR (g_1_7 _) ?_
  refine w_push kc_0 ?_
  refine w_aload rfl ?_
  refine w_getR (g_24_7 _) ?_
  refine w_push kc_0 ?_
  refine w_push kc_96 ?_
  refine w_acopy (s := 0) (d := 0) (m := 96) (ai_9 _) (ai_32 _) (by omega) (by omega) (by omega) (by omega) (by omega) rfl ok7 (fun i _ _ => by have hXq := ok7.a (c := 9) (i := 0 + (i - 0)) (ae_9 _); rw [(ae_32 _)]; exact hXq) (fun t8 ht8 ok8 => ?_)
  have fr8 := fr7.uR ht8 (by simp)
  refine w_aload rfl ?_
  refine w_getR (g_1_9 _) ?_
  refine w_push kc_0 ?_
  refine w_aload rfl ?_
  refine w_getR (g_24_9 _) ?_
  refine w_push kc_0 ?_
  refine w_push kc_3 ?_
  refine w_acopy (s := 0) (d := 0) (m := 3) (ai_11 _) (ai_34 _) (by omega) (by omega) (by omega) (by omega) (by omega) rfl ok8 (fun i _ _ => by have hXq := ok8.a (c := 11) (i := 0 + (i - 0)) (ae_11 _); rw [(ae_34 _)]; exact hXq) (fun t9 ht9 ok9 => ?_)
  have fr9 := fr8.uR ht9 (by simp)
  refine w_push kc_0 ?_
  refine w_istore (lv' := [some (.ref 24), some (.ref 1), some (.int (jI 0))]) rfl ?_
  refine w_goto ?_
  have key1 : ∀ (n1 M1 : Nat) (i : Int) (t10 : TS), OK t10 → Fr [(24, 10), (24, 11), (24, 12), (24, 13), (24, 14), (25, 100), (26, 100), (27, 100), (28, 100), (29, 100), (30, 100), (31, 100), (32, 100), (34, 100), (33, 101)] t t10 → (0 ≤ i) → (i ≤ 14) → (∀ c k, tA t10 c k = tA t9 c k) → (∀ c k, tI t10 c k = tI t c k) → (∀ m : Nat, (m : Int) < i → tT t10 33 m = tT t 10 m) → 14 - i < (n1 : Int) → 60 * n1 + (1000) ≤ M1 → Rn (bX4_become (EX FU (d + 0))) M1 1 [some (.ref 24), some (.ref 1), some (.int (jI i))] [] (mk t10) (PV (fun t' => OK t' ∧ Fr [(24, 10), (24, 11), (24, 12), (24, 13), (24, 14), (25, 100), (26, 100), (27, 100), (28, 100), (29, 100), (30, 100), (31, 100), (32, 100), (34, 100), (33, 101)] t t' ∧ (tI t' 24 10 = tI t 1 10) ∧ (tI t' 24 11 = tI t 1 11) ∧ (tI t' 24 12 = tI t 1 12) ∧ (tI t' 24 13 = tI t 1 13) ∧ (tI t' 24 14 = tI t 1 14) ∧ (∀ i : Nat, i < 12 → tA t' 25 i = tA t 2 i) ∧ (∀ i : Nat, i < 12 → tA t' 26 i = tA t 3 i) ∧ (∀ i : Nat, i < 12 → tA t' 27 i = tA t 4 i) ∧ (∀ i : Nat, i < 12 → tA t' 28 i = tA t 5 i) ∧ (∀ i : Nat, i < 12 → tA t' 29 i = tA t 6 i) ∧ (∀ i : Nat, i < 12 → tA t' 30 i = tA t 7 i) ∧ (∀ i : Nat, i < 24 → tA t' 31 i = tA t 8 i) ∧ (∀ i : Nat, i < 96 → tA t' 32 i = tA t 9 i) ∧ (∀ i : Nat, i < 3 → tA t' 34 i = tA t 11 i) ∧ (∀ i : Nat, i < 14 → tT t' 33 i = tT t 10 i))) := by
    intro n1
    induction n1 with
    | zero => intro M1 i t10 ok10 fr10 i1_0 i1_1 i1_2 i1_3 i1_4 v1 f1; exfalso; omega
    | succ n1 ih1 =>
      intro M1 i t10 ok10 fr10 i1_0 i1_1 i1_2 i1_3 i1_4 v1 f1
      obtain ⟨M1, rfl⟩ : ∃ m, M1 = m + 60 := ⟨M1 - 60, by omega⟩
      have frs := fr10
      refine w_step rfl ?_
      refine w_iload rfl ?_
      refine w_push kc_14 ?_
      refine w_cge (by omega) (fun h11 => ?_) (fun h11 => ?_)
      · skip
        refine w_step rfl ?_
        refine w_aload rfl ?_
        refine w_aload rfl ?_
        refine w_getI (g_1_10 _) fe_1_10 ok10 (fun z12 hz12 hl12 hh12 => ?_)
        refine w_putI (p_24_10 _) fe_24_10 ok10 (by omega) (fun t13 ht13 ok13 => ?_)
        have fr13 := fr10.uI ht13 (by simp)
        refine w_aload rfl ?_
        refine w_aload rfl ?_
        refine w_getI (g_1_11 _) fe_1_11 ok13 (fun z14 hz14 hl14 hh14 => ?_)
        refine w_putI (p_24_11 _) fe_24_11 ok13 (by omega) (fun t15 ht15 ok15 => ?_)
        have fr15 := fr13.uI ht15 (by simp)
        refine w_aload rfl ?_
        refine w_aload rfl ?_
        refine w_getI (g_1_12 _) fe_1_12 ok15 (fun z16 hz16 hl16 hh16 => ?_)
        refine w_putI (p_24_12 _) fe_24_12 ok15 (by omega) (fun t17 ht17 ok17 => ?_)
        have fr17 := fr15.uI ht17 (by simp)
        refine w_aload rfl ?_
        refine w_aload rfl ?_
        refine w_getI (g_1_13 _) fe_1_13 ok17 (fun z18 hz18 hl18 hh18 => ?_)
        refine w_putI (p_24_13 _) fe_24_13 ok17 (by omega) (fun t19 ht19 ok19 => ?_)
        have fr19 := fr17.uI ht19 (by simp)
        refine w_aload rfl ?_
        refine w_aload rfl ?_
        refine w_getI (g_1_14 _) fe_1_14 ok19 (fun z20 hz20 hl20 hh20 => ?_)
        refine w_putI (p_24_14 _) fe_24_14 ok19 (by omega) (fun t21 ht21 ok21 => ?_)
        have fr21 := fr19.uI ht21 (by simp)
        refine w_retV ?_
        exact ⟨ok21, fr21, (by subst_vars; simp [tI_uI, i1_3]), (by subst_vars; simp [tI_uI, i1_3]), (by subst_vars; simp [tI_uI, i1_3]), (by subst_vars; simp [tI_uI, i1_3]), (by subst_vars; simp [tI_uI, i1_3]), (by intro i hi; subst_vars; simp only [tA_uI]; rw [i1_2]; simp [tA_uR, hi]), (by intro i hi; subst_vars; simp only [tA_uI]; rw [i1_2]; simp [tA_uR, hi]), (by intro i hi; subst_vars; simp only [tA_uI]; rw [i1_2]; simp [tA_uR, hi]), (by intro i hi; subst_vars; simp only [tA_uI]; rw [i1_2]; simp [tA_uR, hi]), (by intro i hi; subst_vars; simp only [tA_uI]; rw [i1_2]; simp [tA_uR, hi]), (by intro i hi; subst_vars; simp only [tA_uI]; rw [i1_2]; simp [tA_uR, hi]), (by intro i hi; subst_vars; simp only [tA_uI]; rw [i1_2]; simp [tA_uR, hi]), (by intro i hi; subst_vars; simp only [tA_uI]; rw [i1_2]; simp [tA_uR, hi]), (by intro i hi; subst_vars; simp only [tA_uI]; rw [i1_2]; simp [tA_uR, hi]), (by intro m hm; subst_vars; exact i1_4 m (by omega))⟩
      refine w_aload rfl ?_
      refine w_getR (g_24_8 _) ?_
      refine w_iload rfl ?_
      refine w_aload rfl ?_
      refine w_getR (g_1_8 _) ?_
      refine w_iload rfl ?_
      refine w_texts (i := (i).toNat) (raT' isT1 _) (by omega) (by omega) ok10 (fun e22 => ?_) (fun j22 hj22 e22 => ?_)
      · skip
        have eq1 := e22
        refine w_aastN (i := (i).toNat) (raT' isT24 _) (wtT' isT24 _) (by omega) (by omega) ok10 (fun t23 ht23 ok23 => ?_)
        have fr23 := fr10.uT ht23 (by simp)
        refine w_iinc (lv' := [some (.ref 24), some (.ref 1), some (.int (jI (i + 1)))]) kc_1 rfl rfl ?_
        refine w_goto ?_
        exact ih1 _ (i + 1) t23 ok23 fr23 (by omega) (by omega) (by intro c k; rw [ht23]; exact i1_2 c k) (by intro c k; rw [ht23]; exact i1_3 c k) (by intro m hm; rw [ht23, tT_uT]; split <;> first | exact i1_4 m (by omega) | (rename_i q; rw [q.2, ← frs.2.2.1 10 (by simp)]; exact eq1.symm)) (by omega) (by omega)
      have eq1 := e22
      refine w_aastX (i := (i).toNat) (raT' isT24 _) (wtT' isT24 _) (by omega) (by omega) (by have hl := fr10.len; omega) ok10 (fun t24 ht24 ok24 => ?_)
      have fr24 := fr10.uT ht24 (by simp)
      refine w_iinc (lv' := [some (.ref 24), some (.ref 1), some (.int (jI (i + 1)))]) kc_1 rfl rfl ?_
      refine w_goto ?_
      exact ih1 _ (i + 1) t24 ok24 fr24 (by omega) (by omega) (by intro c k; rw [ht24]; exact i1_2 c k) (by intro c k; rw [ht24]; exact i1_3 c k) (by intro m hm; rw [ht24, tT_uT]; split <;> first | exact i1_4 m (by omega) | (rename_i q; rw [q.2, ← frs.2.2.1 10 (by simp)]; exact eq1.symm)) (by omega) (by omega)
  exact key1 15 _ 0 t9 ok9 fr9 (by omega) (by omega) (fun _ _ => rfl) (by intro c k; subst_vars; rfl) (by intro m hm; omega) (by omega) (by omega)
set_option maxRecDepth 100000 in
set_option maxHeartbeats 4000000 in
theorem c_X4_become_24_12 {d : Nat} {t : TS}  (ok : OK t) : CV (EX FU (d + 1)) 30 [.ref 24, .ref 12] (mk t) (fun t' => OK t' ∧ Fr [(24, 10), (24, 11), (24, 12), (24, 13), (24, 14), (25, 100), (26, 100), (27, 100), (28, 100), (29, 100), (30, 100), (31, 100), (32, 100), (34, 100), (33, 101)] t t' ∧ (tI t' 24 10 = tI t 12 10) ∧ (tI t' 24 11 = tI t 12 11) ∧ (tI t' 24 12 = tI t 12 12) ∧ (tI t' 24 13 = tI t 12 13) ∧ (tI t' 24 14 = tI t 12 14) ∧ (∀ i : Nat, i < 12 → tA t' 25 i = tA t 13 i) ∧ (∀ i : Nat, i < 12 → tA t' 26 i = tA t 14 i) ∧ (∀ i : Nat, i < 12 → tA t' 27 i = tA t 15 i) ∧ (∀ i : Nat, i < 12 → tA t' 28 i = tA t 16 i) ∧ (∀ i : Nat, i < 12 → tA t' 29 i = tA t 17 i) ∧ (∀ i : Nat, i < 12 → tA t' 30 i = tA t 18 i) ∧ (∀ i : Nat, i < 24 → tA t' 31 i = tA t 19 i) ∧ (∀ i : Nat, i < 96 → tA t' 32 i = tA t 20 i) ∧ (∀ i : Nat, i < 3 → tA t' 34 i = tA t 22 i) ∧ (∀ i : Nat, i < 14 → tT t' 33 i = tT t 21 i)) := by
  refine CV_ent (d := d + 0) (Bk := bX4_become) (nL := 3) rfl rfl rfl (Nat.le_of_ble_eq_true rfl) ?_
  show Rn _ 1000000 0 [some (.ref 24), some (.ref 12), none] [] _ _
  have fr : Fr [(24, 10), (24, 11), (24, 12), (24, 13), (24, 14), (25, 100), (26, 100), (27, 100), (28, 100), (29, 100), (30, 100), (31, 100), (32, 100), (34, 100), (33, 101)] t t := Fr.rf _ _
  refine w_step rfl ?_
  refine w_aload rfl ?_
  refine w_getR (g_12_0 _) ?_
  refine w_push kc_0 ?_
  refine w_aload rfl ?_
  refine w_getR (g_24_0 _) ?_
  refine w_push kc_0 ?_
  refine w_push kc_12 ?_
  refine w_acopy (s := 0) (d := 0) (m := 12) (ai_13 _) (ai_25 _) (by omega) (by omega) (by omega) (by omega) (by omega) rfl ok (fun i _ _ => by have hXq := ok.a (c := 13) (i := 0 + (i - 0)) (ae_13 _); rw [(ae_25 _)]; exact hXq) (fun t1 ht1 ok1 => ?_)
  have fr1 := fr.uR ht1 (by simp)
  refine w_aload rfl ?_
  refine w_getR (g_12_1 _) ?_
  refine w_push kc_0 ?_
  refine w_aload rfl ?_
  refine w_getR (g_24_1 _) ?_
  refine w_push kc_0 ?_
  refine w_push kc_12 ?_
  refine w_acopy (s := 0) (d := 0) (m := 12) (ai_14 _) (ai_26 _) (by omega) (by omega) (by omega) (by omega) (by omega) rfl ok1 (fun i _ _ => by have hXq := ok1.a (c := 14) (i := 0 + (i - 0)) (ae_14 _); rw [(ae_26 _)]; exact hXq) (fun t2 ht2 ok2 => ?_)
  have fr2 := fr1.uR ht2 (by simp)
  refine w_aload rfl ?_
  refine w_getR (g_12_2 _) ?_
  refine w_push kc_0 ?_
  refine w_aload rfl ?_
  refine w_getR (g_24_2 _) ?_
  refine w_push kc_0 ?_
  refine w_push kc_12 ?_
  refine w_acopy (s := 0) (d := 0) (m := 12) (ai_15 _) (ai_27 _) (by omega) (by omega) (by omega) (by omega) (by omega) rfl ok2 (fun i _ _ => by have hXq := ok2.a (c := 15) (i := 0 + (i - 0)) (ae_15 _); rw [(ae_27 _)]; exact hXq) (fun t3 ht3 ok3 => ?_)
  have fr3 := fr2.uR ht3 (by simp)
  refine w_aload rfl ?_
  refine w_getR (g_12_3 _) ?_
  refine w_push kc_0 ?_
  refine w_aload rfl ?_
  refine w_getR (g_24_3 _) ?_
  refine w_push kc_0 ?_
  refine w_push kc_12 ?_
  refine w_acopy (s := 0) (d := 0) (m := 12) (ai_16 _) (ai_28 _) (by omega) (by omega) (by omega) (by omega) (by omega) rfl ok3 (fun i _ _ => by have hXq := ok3.a (c := 16) (i := 0 + (i - 0)) (ae_16 _); rw [(ae_28 _)]; exact hXq) (fun t4 ht4 ok4 => ?_)
  have fr4 := fr3.uR ht4 (by simp)
  refine w_aload rfl ?_
  refine w_getR (g_12_4 _) ?_
  refine w_push kc_0 ?_
  refine w_aload rfl ?_
  refine w_getR (g_24_4 _) ?_
  refine w_push kc_0 ?_
  refine w_push kc_12 ?_
  refine w_acopy (s := 0) (d := 0) (m := 12) (ai_17 _) (ai_29 _) (by omega) (by omega) (by omega) (by omega) (by omega) rfl ok4 (fun i _ _ => by have hXq := ok4.a (c := 17) (i := 0 + (i - 0)) (ae_17 _); rw [(ae_29 _)]; exact hXq) (fun t5 ht5 ok5 => ?_)
  have fr5 := fr4.uR ht5 (by simp)
  refine w_aload rfl ?_
  refine w_getR (g_12_5 _) ?_
  refine w_push kc_0 ?_
  refine w_aload rfl ?_
  refine w_getR (g_24_5 _) ?_
  refine w_push kc_0 ?_
  refine w_push kc_12 ?_
  refine w_acopy (s := 0) (d := 0) (m := 12) (ai_18 _) (ai_30 _) (by omega) (by omega) (by omega) (by omega) (by omega) rfl ok5 (fun i _ _ => by have hXq := ok5.a (c := 18) (i := 0 + (i - 0)) (ae_18 _); rw [(ae_30 _)]; exact hXq) (fun t6 ht6 ok6 => ?_)
  have fr6 := fr5.uR ht6 (by simp)
  refine w_aload rfl ?_
  refine w_getR (g_12_6 _) ?_
  refine w_push kc_0 ?_
  refine w_aload rfl ?_
  refine w_getR (g_24_6 _) ?_
  refine w_push kc_0 ?_
  refine w_push kc_24 ?_
  refine w_acopy (s := 0) (d := 0) (m := 24) (ai_19 _) (ai_31 _) (by omega) (by omega) (by omega) (by omega) (by omega) rfl ok6 (fun i _ _ => by have hXq := ok6.a (c := 19) (i := 0 + (i - 0)) (ae_19 _); rw [(ae_31 _)]; exact hXq) (fun t7 ht7 ok7 => ?_)
  have fr7 := fr6.uR ht7 (by simp)
  refine w_aload rfl ?_
  refine w_getR (g_12_7 _) ?_
  refine w_push kc_0 ?_
  refine w_aload rfl ?_
  refine w_getR (g_24_7 _) ?_
  refine w_push kc_0 ?_
  refine w_push kc_96 ?_
  refine w_acopy (s := 0) (d := 0) (m := 96) (ai_20 _) (ai_32 _) (by omega) (by omega) (by omega) (by omega) (by omega) rfl ok7 (fun i _ _ => by have hXq := ok7.a (c := 20) (i := 0 + (i - 0)) (ae_20 _); rw [(ae_32 _)]; exact hXq) (fun t8 ht8 ok8 => ?_)
  have fr8 := fr7.uR ht8 (by simp)
  refine w_aload rfl ?_
  refine w_getR (g_12_9 _) ?_
  refine w_push kc_0 ?_
  refine w_aload rfl ?_
  refine w_getR (g_24_9 _) ?_
  refine w_push kc_0 ?_
  refine w_push kc_3 ?_
  refine w_acopy (s := 0) (d := 0) (m := 3) (ai_22 _) (ai_34 _) (by omega) (by omega) (by omega) (by omega) (by omega) rfl ok8 (fun i _ _ => by have hXq := ok8.a (c := 22) (i := 0 + (i - 0)) (ae_22 _); rw [(ae_34 _)]; exact hXq) (fun t9 ht9 ok9 => ?_)
  have fr9 := fr8.uR ht9 (by simp)
  refine w_push kc_0 ?_
  refine w_istore (lv' := [some (.ref 24), some (.ref 12), some (.int (jI 0))]) rfl ?_
  refine w_goto ?_
  have key1 : ∀ (n1 M1 : Nat) (i : Int) (t10 : TS), OK t10 → Fr [(24, 10), (24, 11), (24, 12), (24, 13), (24, 14), (25, 100), (26, 100), (27, 100), (28, 100), (29, 100), (30, 100), (31, 100), (32, 100), (34, 100), (33, 101)] t t10 → (0 ≤ i) → (i ≤ 14) → (∀ c k, tA t10 c k = tA t9 c k) → (∀ c k, tI t10 c k = tI t c k) → (∀ m : Nat, (m : Int) < i → tT t10 33 m = tT t 21 m) → 14 - i < (n1 : Int) → 60 * n1 + (1000) ≤ M1 → Rn (bX4_become (EX FU (d + 0))) M1 1 [some (.ref 24), some (.ref 12), some (.int (jI i))] [] (mk t10) (PV (fun t' => OK t' ∧ Fr [(24, 10), (24, 11), (24, 12), (24, 13), (24, 14), (25, 100), (26, 100), (27, 100), (28, 100), (29, 100), (30, 100), (31, 100), (32, 100), (34, 100), (33, 101)] t t' ∧ (tI t' 24 10 = tI t 12 10) ∧ (tI t' 24 11 = tI t 12 11) ∧ (tI t' 24 12 = tI t 12 12) ∧ (tI t' 24 13 = tI t 12 13) ∧ (tI t' 24 14 = tI t 12 14) ∧ (∀ i : Nat, i < 12 → tA t' 25 i = tA t 13 i) ∧ (∀ i : Nat, i < 12 → tA t' 26 i = tA t 14 i) ∧ (∀ i : Nat, i < 12 → tA t' 27 i = tA t 15 i) ∧ (∀ i : Nat, i < 12 → tA t' 28 i = tA t 16 i) ∧ (∀ i : Nat, i < 12 → tA t' 29 i = tA t 17 i) ∧ (∀ i : Nat, i < 12 → tA t' 30 i = tA t 18 i) ∧ (∀ i : Nat, i < 24 → tA t' 31 i = tA t 19 i) ∧ (∀ i : Nat, i < 96 → tA t' 32 i = tA t 20 i) ∧ (∀ i : Nat, i < 3 → tA t' 34 i = tA t 22 i) ∧ (∀ i : Nat, i < 14 → tT t' 33 i = tT t 21 i))) := by
    intro n1
    induction n1 with
    | zero => intro M1 i t10 ok10 fr10 i1_0 i1_1 i1_2 i1_3 i1_4 v1 f1; exfalso; omega
    | succ n1 ih1 =>
      intro M1 i t10 ok10 fr10 i1_0 i1_1 i1_2 i1_3 i1_4 v1 f1
      obtain ⟨M1, rfl⟩ : ∃ m, M1 = m + 60 := ⟨M1 - 60, by omega⟩
      have frs := fr10
      refine w_step rfl ?_
      refine w_iload rfl ?_
      refine w_push kc_14 ?_
      refine w_cge (by omega) (fun h11 => ?_) (fun h11 => ?_)
      · skip
        refine w_step rfl ?_
        refine w_aload rfl ?_
        refine w_aload rfl ?_
        refine w_getI (g_12_10 _) fe_12_10 ok10 (fun z12 hz12 hl12 hh12 => ?_)
        refine w_putI (p_24_10 _) fe_24_10 ok10 (by omega) (fun t13 ht13 ok13 => ?_)
        have fr13 := fr10.uI ht13 (by simp)
        refine w_aload rfl ?_
        refine w_aload rfl ?_
        refine w_getI (g_12_11 _) fe_12_11 ok13 (fun z14 hz14 hl14 hh14 => ?_)
        refine w_putI (p_24_11 _) fe_24_11 ok13 (by omega) (fun t15 ht15 ok15 => ?_)
        have fr15 := fr13.uI ht15 (by simp)
        refine w_aload rfl ?_
        refine w_aload rfl ?_
        refine w_getI (g_12_12 _) fe_12_12 ok15 (fun z16 hz16 hl16 hh16 => ?_)
        refine w_putI (p_24_12 _) fe_24_12 ok15 (by omega) (fun t17 ht17 ok17 => ?_)
        have fr17 := fr15.uI ht17 (by simp)
        refine w_aload rfl ?_
        refine w_aload rfl ?_
        refine w_getI (g_12_13 _) fe_12_13 ok17 (fun z18 hz18 hl18 hh18 => ?_)
        refine w_putI (p_24_13 _) fe_24_13 ok17 (by omega) (fun t19 ht19 ok19 => ?_)
        have fr19 := fr17.uI ht19 (by simp)
        refine w_aload rfl ?_
        refine w_aload rfl ?_
        refine w_getI (g_12_14 _) fe_12_14 ok19 (fun z20 hz20 hl20 hh20 => ?_)
        refine w_putI (p_24_14 _) fe_24_14 ok19 (by omega) (fun t21 ht21 ok21 => ?_)
        have fr21 := fr19.uI ht21 (by simp)
        refine w_retV ?_
        exact ⟨ok21, fr21, (by subst_vars; simp [tI_uI, i1_3]), (by subst_vars; simp [tI_uI, i1_3]), (by subst_vars; simp [tI_uI, i1_3]), (by subst_vars; simp [tI_uI, i1_3]), (by subst_vars; simp [tI_uI, i1_3]), (by intro i hi; subst_vars; simp only [tA_uI]; rw [i1_2]; simp [tA_uR, hi]), (by intro i hi; subst_vars; simp only [tA_uI]; rw [i1_2]; simp [tA_uR, hi]), (by intro i hi; subst_vars; simp only [tA_uI]; rw [i1_2]; simp [tA_uR, hi]), (by intro i hi; subst_vars; simp only [tA_uI]; rw [i1_2]; simp [tA_uR, hi]), (by intro i hi; subst_vars; simp only [tA_uI]; rw [i1_2]; simp [tA_uR, hi]), (by intro i hi; subst_vars; simp only [tA_uI]; rw [i1_2]; simp [tA_uR, hi]), (by intro i hi; subst_vars; simp only [tA_uI]; rw [i1_2]; simp [tA_uR, hi]), (by intro i hi; subst_vars; simp only [tA_uI]; rw [i1_2]; simp [tA_uR, hi]), (by intro i hi; subst_vars; simp only [tA_uI]; rw [i1_2]; simp [tA_uR, hi]), (by intro m hm; subst_vars; exact i1_4 m (by omega))⟩
      refine w_aload rfl ?_
      refine w_getR (g_24_8 _) ?_
      refine w_iload rfl ?_
      refine w_aload rfl ?_
      refine w_getR (g_12_8 _) ?_
      refine w_iload rfl ?_
      refine w_texts (i := (i).toNat) (raT' isT12 _) (by omega) (by omega) ok10 (fun e22 => ?_) (fun j22 hj22 e22 => ?_)
      · skip
        have eq1 := e22
        refine w_aastN (i := (i).toNat) (raT' isT24 _) (wtT' isT24 _) (by omega) (by omega) ok10 (fun t23 ht23 ok23 => ?_)
        have fr23 := fr10.uT ht23 (by simp)
        refine w_iinc (lv' := [some (.ref 24), some (.ref 12), some (.int (jI (i + 1)))]) kc_1 rfl rfl ?_
        refine w_goto ?_
        exact ih1 _ (i + 1) t23 ok23 fr23 (by omega) (by omega) (by intro c k; rw [ht23]; exact i1_2 c k) (by intro c k; rw [ht23]; exact i1_3 c k) (by intro m hm; rw [ht23, tT_uT]; split <;> first | exact i1_4 m (by omega) | (rename_i q; rw [q.2, ← frs.2.2.1 21 (by simp)]; exact eq1.symm)) (by omega) (by omega)
      have eq1 := e22
      refine w_aastX (i := (i).toNat) (raT' isT24 _) (wtT' isT24 _) (by omega) (by omega) (by have hl := fr10.len; omega) ok10 (fun t24 ht24 ok24 => ?_)
      have fr24 := fr10.uT ht24 (by simp)
      refine w_iinc (lv' := [some (.ref 24), some (.ref 12), some (.int (jI (i + 1)))]) kc_1 rfl rfl ?_
      refine w_goto ?_
      exact ih1 _ (i + 1) t24 ok24 fr24 (by omega) (by omega) (by intro c k; rw [ht24]; exact i1_2 c k) (by intro c k; rw [ht24]; exact i1_3 c k) (by intro m hm; rw [ht24, tT_uT]; split <;> first | exact i1_4 m (by omega) | (rename_i q; rw [q.2, ← frs.2.2.1 21 (by simp)]; exact eq1.symm)) (by omega) (by omega)
  exact key1 15 _ 0 t9 ok9 fr9 (by omega) (by omega) (fun _ _ => rfl) (by intro c k; subst_vars; rfl) (by intro m hm; omega) (by omega) (by omega)
set_option maxRecDepth 100000 in
set_option maxHeartbeats 4000000 in
theorem c_X4_become_12_1 {d : Nat} {t : TS}  (ok : OK t) : CV (EX FU (d + 1)) 30 [.ref 12, .ref 1] (mk t) (fun t' => OK t' ∧ Fr [(12, 10), (12, 11), (12, 12), (12, 13), (12, 14), (13, 100), (14, 100), (15, 100), (16, 100), (17, 100), (18, 100), (19, 100), (20, 100), (22, 100), (21, 101)] t t' ∧ (tI t' 12 10 = tI t 1 10) ∧ (tI t' 12 11 = tI t 1 11) ∧ (tI t' 12 12 = tI t 1 12) ∧ (tI t' 12 13 = tI t 1 13) ∧ (tI t' 12 14 = tI t 1 14) ∧ (∀ i : Nat, i < 12 → tA t' 13 i = tA t 2 i) ∧ (∀ i : Nat, i < 12 → tA t' 14 i = tA t 3 i) ∧ (∀ i : Nat, i < 12 → tA t' 15 i = tA t 4 i) ∧ (∀ i : Nat, i < 12 → tA t' 16 i = tA t 5 i) ∧ (∀ i : Nat, i < 12 → tA t' 17 i = tA t 6 i) ∧ (∀ i : Nat, i < 12 → tA t' 18 i = tA t 7 i) ∧ (∀ i : Nat, i < 24 → tA t' 19 i = tA t 8 i) ∧ (∀ i : Nat, i < 96 → tA t' 20 i = tA t 9 i) ∧ (∀ i : Nat, i < 3 → tA t' 22 i = tA t 11 i) ∧ (∀ i : Nat, i < 14 → tT t' 21 i = tT t 10 i)) := by
  refine CV_ent (d := d + 0) (Bk := bX4_become) (nL := 3) rfl rfl rfl (Nat.le_of_ble_eq_true rfl) ?_
  show Rn _ 1000000 0 [some (.ref 12), some (.ref 1), none] [] _ _
  have fr : Fr [(12, 10), (12, 11), (12, 12), (12, 13), (12, 14), (13, 100), (14, 100), (15, 100), (16, 100), (17, 100), (18, 100), (19, 100), (20, 100), (22, 100), (21, 101)] t t := Fr.rf _ _
  refine w_step rfl ?_
  refine w_aload rfl ?_
  refine w_getR (g_1_0 _) ?_
  refine w_push kc_0 ?_
  refine w_aload rfl ?_
  refine w_getR (g_12_0 _) ?_
  refine w_push kc_0 ?_
  refine w_push kc_12 ?_
  refine w_acopy (s := 0) (d := 0) (m := 12) (ai_2 _) (ai_13 _) (by omega) (by omega) (by omega) (by omega) (by omega) rfl ok (fun i _ _ => by have hXq := ok.a (c := 2) (i := 0 + (i - 0)) (ae_2 _); rw [(ae_13 _)]; exact hXq) (fun t1 ht1 ok1 => ?_)
  have fr1 := fr.uR ht1 (by simp)
  refine w_aload rfl ?_
  refine w_getR (g_1_1 _) ?_
  refine w_push kc_0 ?_
  refine w_aload rfl ?_
  refine w_getR (g_12_1 _) ?_
  refine w_push kc_0 ?_
  refine w_push kc_12 ?_
  refine w_acopy (s := 0) (d := 0) (m := 12) (ai_3 _) (ai_14 _) (by omega) (by omega) (by omega) (by omega) (by omega) rfl ok1 (fun i _ _ => by have hXq := ok1.a (c := 3) (i := 0 + (i - 0)) (ae_3 _); rw [(ae_14 _)]; exact hXq) (fun t2 ht2 ok2 => ?_)
  have fr2 := fr1.uR ht2 (by simp)
  refine w_aload rfl ?_
  refine w_getR (g_1_2 _) ?_
  refine w_push kc_0 ?_
  refine w_aload rfl ?_
  refine w_getR (g_12_2 _) ?_
  refine w_push kc_0 ?_
  refine w_push kc_12 ?_
  refine w_acopy (s := 0) (d := 0) (m := 12) (ai_4 _) (ai_15 _) (by omega) (by omega) (by omega) (by omega) (by omega) rfl ok2 (fun i _ _ => by have hXq := ok2.a (c := 4) (i := 0 + (i - 0)) (ae_4 _); rw [(ae_15 _)]; exact hXq) (fun t3 ht3 ok3 => ?_)
  have fr3 := fr2.uR ht3 (by simp)
  refine w_aload rfl ?_
  refine w_getR (g_1_3 _) ?_
  refine w_push kc_0 ?_
  refine w_aload rfl ?_
  refine w_getR (g_12_3 _) ?_
  refine w_push kc_0 ?_
  refine w_push kc_12 ?_
  refine w_acopy (s := 0) (d := 0) (m := 12) (ai_5 _) (ai_16 _) (by omega) (by omega) (by omega) (by omega) (by omega) rfl ok3 (fun i _ _ => by have hXq := ok3.a (c := 5) (i := 0 + (i - 0)) (ae_5 _); rw [(ae_16 _)]; exact hXq) (fun t4 ht4 ok4 => ?_)
  have fr4 := fr3.uR ht4 (by simp)
  refine w_aload rfl ?_
  refine w_getR (g_1_4 _) ?_
  refine w_push kc_0 ?_
  refine w_aload rfl ?_
  refine w_getR (g_12_4 _) ?_
  refine w_push kc_0 ?_
  refine w_push kc_12 ?_
  refine w_acopy (s := 0) (d := 0) (m := 12) (ai_6 _) (ai_17 _) (by omega) (by omega) (by omega) (by omega) (by omega) rfl ok4 (fun i _ _ => by have hXq := ok4.a (c := 6) (i := 0 + (i - 0)) (ae_6 _); rw [(ae_17 _)]; exact hXq) (fun t5 ht5 ok5 => ?_)
  have fr5 := fr4.uR ht5 (by simp)
  refine w_aload rfl ?_
  refine w_getR (g_1_5 _) ?_
  refine w_push kc_0 ?_
  refine w_aload rfl ?_
  refine w_getR (g_12_5 _) ?_
  refine w_push kc_0 ?_
  refine w_push kc_12 ?_
  refine w_acopy (s := 0) (d := 0) (m := 12) (ai_7 _) (ai_18 _) (by omega) (by omega) (by omega) (by omega) (by omega) rfl ok5 (fun i _ _ => by have hXq := ok5.a (c := 7) (i := 0 + (i - 0)) (ae_7 _); rw [(ae_18 _)]; exact hXq) (fun t6 ht6 ok6 => ?_)
  have fr6 := fr5.uR ht6 (by simp)
  refine w_aload rfl ?_
  refine w_getR (g_1_6 _) ?_
  refine w_push kc_0 ?_
  refine w_aload rfl ?_
  refine w_getR (g_12_6 _) ?_
  refine w_push kc_0 ?_
  refine w_push kc_24 ?_
  refine w_acopy (s := 0) (d := 0) (m := 24) (ai_8 _) (ai_19 _) (by omega) (by omega) (by omega) (by omega) (by omega) rfl ok6 (fun i _ _ => by have hXq := ok6.a (c := 8) (i := 0 + (i - 0)) (ae_8 _); rw [(ae_19 _)]; exact hXq) (fun t7 ht7 ok7 => ?_)
  have fr7 := fr6.uR ht7 (by simp)
  refine w_aload rfl ?_
  refine w_getR (g_1_7 _) ?_
  refine w_push kc_0 ?_
  refine w_aload rfl ?_
  refine w_getR (g_12_7 _) ?_
  refine w_push kc_0 ?_
  refine w_push kc_96 ?_
  refine w_acopy (s := 0) (d := 0) (m := 96) (ai_9 _) (ai_20 _) (by omega) (by omega) (by omega) (by omega) (by omega) rfl ok7 (fun i _ _ => by have hXq := ok7.a (c := 9) (i := 0 + (i - 0)) (ae_9 _); rw [(ae_20 _)]; exact hXq) (fun t8 ht8 ok8 => ?_)
  have fr8 := fr7.uR ht8 (by simp)
  refine w_aload rfl ?_
  refine w_getR (g_1_9 _) ?_
  refine w_push kc_0 ?_
  refine w_aload rfl ?_
  refine w_getR (g_12_9 _) ?_
  refine w_push kc_0 ?_
  refine w_push kc_3 ?_
  refine w_acopy (s := 0) (d := 0) (m := 3) (ai_11 _) (ai_22 _) (by omega) (by omega) (by omega) (by omega) (by omega) rfl ok8 (fun i _ _ => by have hXq := ok8.a (c := 11) (i := 0 + (i - 0)) (ae_11 _); rw [(ae_22 _)]; exact hXq) (fun t9 ht9 ok9 => ?_)
  have fr9 := fr8.uR ht9 (by simp)
  refine w_push kc_0 ?_
  refine w_istore (lv' := [some (.ref 12), some (.ref 1), some (.int (jI 0))]) rfl ?_
  refine w_goto ?_
  have key1 : ∀ (n1 M1 : Nat) (i : Int) (t10 : TS), OK t10 → Fr [(12, 10), (12, 11), (12, 12), (12, 13), (12, 14), (13, 100), (14, 100), (15, 100), (16, 100), (17, 100), (18, 100), (19, 100), (20, 100), (22, 100), (21, 101)] t t10 → (0 ≤ i) → (i ≤ 14) → (∀ c k, tA t10 c k = tA t9 c k) → (∀ c k, tI t10 c k = tI t c k) → (∀ m : Nat, (m : Int) < i → tT t10 21 m = tT t 10 m) → 14 - i < (n1 : Int) → 60 * n1 + (1000) ≤ M1 → Rn (bX4_become (EX FU (d + 0))) M1 1 [some (.ref 12), some (.ref 1), some (.int (jI i))] [] (mk t10) (PV (fun t' => OK t' ∧ Fr [(12, 10), (12, 11), (12, 12), (12, 13), (12, 14), (13, 100), (14, 100), (15, 100), (16, 100), (17, 100), (18, 100), (19, 100), (20, 100), (22, 100), (21, 101)] t t' ∧ (tI t' 12 10 = tI t 1 10) ∧ (tI t' 12 11 = tI t 1 11) ∧ (tI t' 12 12 = tI t 1 12) ∧ (tI t' 12 13 = tI t 1 13) ∧ (tI t' 12 14 = tI t 1 14) ∧ (∀ i : Nat, i < 12 → tA t' 13 i = tA t 2 i) ∧ (∀ i : Nat, i < 12 → tA t' 14 i = tA t 3 i) ∧ (∀ i : Nat, i < 12 → tA t' 15 i = tA t 4 i) ∧ (∀ i : Nat, i < 12 → tA t' 16 i = tA t 5 i) ∧ (∀ i : Nat, i < 12 → tA t' 17 i = tA t 6 i) ∧ (∀ i : Nat, i < 12 → tA t' 18 i = tA t 7 i) ∧ (∀ i : Nat, i < 24 → tA t' 19 i = tA t 8 i) ∧ (∀ i : Nat, i < 96 → tA t' 20 i = tA t 9 i) ∧ (∀ i : Nat, i < 3 → tA t' 22 i = tA t 11 i) ∧ (∀ i : Nat, i < 14 → tT t' 21 i = tT t 10 i))) := by
    intro n1
    induction n1 with
    | zero => intro M1 i t10 ok10 fr10 i1_0 i1_1 i1_2 i1_3 i1_4 v1 f1; exfalso; omega
    | succ n1 ih1 =>
      intro M1 i t10 ok10 fr10 i1_0 i1_1 i1_2 i1_3 i1_4 v1 f1
      obtain ⟨M1, rfl⟩ : ∃ m, M1 = m + 60 := ⟨M1 - 60, by omega⟩
      have frs := fr10
      refine w_step rfl ?_
      refine w_iload rfl ?_
      refine w_push kc_14 ?_
      refine w_cge (by omega) (fun h11 => ?_) (fun h11 => ?_)
      · skip
        refine w_step rfl ?_
        refine w_aload rfl ?_
        refine w_aload rfl ?_
        refine w_getI (g_1_10 _) fe_1_10 ok10 (fun z12 hz12 hl12 hh12 => ?_)
        refine w_putI (p_12_10 _) fe_12_10 ok10 (by omega) (fun t13 ht13 ok13 => ?_)
        have fr13 := fr10.uI ht13 (by simp)
        refine w_aload rfl ?_
        refine w_aload rfl ?_
        refine w_getI (g_1_11 _) fe_1_11 ok13 (fun z14 hz14 hl14 hh14 => ?_)
        refine w_putI (p_12_11 _) fe_12_11 ok13 (by omega) (fun t15 ht15 ok15 => ?_)
        have fr15 := fr13.uI ht15 (by simp)
        refine w_aload rfl ?_
        refine w_aload rfl ?_
        refine w_getI (g_1_12 _) fe_1_12 ok15 (fun z16 hz16 hl16 hh16 => ?_)
        refine w_putI (p_12_12 _) fe_12_12 ok15 (by omega) (fun t17 ht17 ok17 => ?_)
        have fr17 := fr15.uI ht17 (by simp)
        refine w_aload rfl ?_
        refine w_aload rfl ?_
        refine w_getI (g_1_13 _) fe_1_13 ok17 (fun z18 hz18 hl18 hh18 => ?_)
        refine w_putI (p_12_13 _) fe_12_13 ok17 (by omega) (fun t19 ht19 ok19 => ?_)
        have fr19 := fr17.uI ht19 (by simp)
        refine w_aload rfl ?_
        refine w_aload rfl ?_
        refine w_getI (g_1_14 _) fe_1_14 ok19 (fun z20 hz20 hl20 hh20 => ?_)
        refine w_putI (p_12_14 _) fe_12_14 ok19 (by omega) (fun t21 ht21 ok21 => ?_)
        have fr21 := fr19.uI ht21 (by simp)
        refine w_retV ?_
        exact ⟨ok21, fr21, (by subst_vars; simp [tI_uI, i1_3]), (by subst_vars; simp [tI_uI, i1_3]), (by subst_vars; simp [tI_uI, i1_3]), (by subst_vars; simp [tI_uI, i1_3]), (by subst_vars; simp [tI_uI, i1_3]), (by intro i hi; subst_vars; simp only [tA_uI]; rw [i1_2]; simp [tA_uR, hi]), (by intro i hi; subst_vars; simp only [tA_uI]; rw [i1_2]; simp [tA_uR, hi]), (by intro i hi; subst_vars; simp only [tA_uI]; rw [i1_2]; simp [tA_uR, hi]), (by intro i hi; subst_vars; simp only [tA_uI]; rw [i1_2]; simp [tA_uR, hi]), (by intro i hi; subst_vars; simp only [tA_uI]; rw [i1_2]; simp [tA_uR, hi]), (by intro i hi; subst_vars; simp only [tA_uI]; rw [i1_2]; simp [tA_uR, hi]), (by intro i hi; subst_vars; simp only [tA_uI]; rw [i1_2]; simp [tA_uR, hi]), (by intro i hi; subst_vars; simp only [tA_uI]; rw [i1_2]; simp [tA_uR, hi]), (by intro i hi; subst_vars; simp only [tA_uI]; rw [i1_2]; simp [tA_uR, hi]), (by intro m hm; subst_vars; exact i1_4 m (by omega))⟩
      refine w_aload rfl ?_
      refine w_getR (g_12_8 _) ?_
      refine w_iload rfl ?_
      refine w_aload rfl ?_
      refine w_getR (g_1_8 _) ?_
      refine w_iload rfl ?_
      refine w_texts (i := (i).toNat) (raT' isT1 _) (by omega) (by omega) ok10 (fun e22 => ?_) (fun j22 hj22 e22 => ?_)
      · skip
        have eq1 := e22
        refine w_aastN (i := (i).toNat) (raT' isT12 _) (wtT' isT12 _) (by omega) (by omega) ok10 (fun t23 ht23 ok23 => ?_)
        have fr23 := fr10.uT ht23 (by simp)
        refine w_iinc (lv' := [some (.ref 12), some (.ref 1), some (.int (jI (i + 1)))]) kc_1 rfl rfl ?_
        refine w_goto ?_
        exact ih1 _ (i + 1) t23 ok23 fr23 (by omega) (by omega) (by intro c k; rw [ht23]; exact i1_2 c k) (by intro c k; rw [ht23]; exact i1_3 c k) (by intro m hm; rw [ht23, tT_uT]; split <;> first | exact i1_4 m (by omega) | (rename_i q; rw [q.2, ← frs.2.2.1 10 (by simp)]; exact eq1.symm)) (by omega) (by omega)
      have eq1 := e22
      refine w_aastX (i := (i).toNat) (raT' isT12 _) (wtT' isT12 _) (by omega) (by omega) (by have hl := fr10.len; omega) ok10 (fun t24 ht24 ok24 => ?_)
      have fr24 := fr10.uT ht24 (by simp)
      refine w_iinc (lv' := [some (.ref 12), some (.ref 1), some (.int (jI (i + 1)))]) kc_1 rfl rfl ?_
      refine w_goto ?_
      exact ih1 _ (i + 1) t24 ok24 fr24 (by omega) (by omega) (by intro c k; rw [ht24]; exact i1_2 c k) (by intro c k; rw [ht24]; exact i1_3 c k) (by intro m hm; rw [ht24, tT_uT]; split <;> first | exact i1_4 m (by omega) | (rename_i q; rw [q.2, ← frs.2.2.1 10 (by simp)]; exact eq1.symm)) (by omega) (by omega)
  exact key1 15 _ 0 t9 ok9 fr9 (by omega) (by omega) (fun _ _ => rfl) (by intro c k; subst_vars; rfl) (by intro m hm; omega) (by omega) (by omega)
set_option maxRecDepth 100000 in
set_option maxHeartbeats 4000000 in
theorem c_X4_become_1_12 {d : Nat} {t : TS}  (ok : OK t) : CV (EX FU (d + 1)) 30 [.ref 1, .ref 12] (mk t) (fun t' => OK t' ∧ Fr [(1, 10), (1, 11), (1, 12), (1, 13), (1, 14), (2, 100), (3, 100), (4, 100), (5, 100), (6, 100), (7, 100), (8, 100), (9, 100), (11, 100), (10, 101)] t t' ∧ (tI t' 1 10 = tI t 12 10) ∧ (tI t' 1 11 = tI t 12 11) ∧ (tI t' 1 12 = tI t 12 12) ∧ (tI t' 1 13 = tI t 12 13) ∧ (tI t' 1 14 = tI t 12 14) ∧ (∀ i : Nat, i < 12 → tA t' 2 i = tA t 13 i) ∧ (∀ i : Nat, i < 12 → tA t' 3 i = tA t 14 i) ∧ (∀ i : Nat, i < 12 → tA t' 4 i = tA t 15 i) ∧ (∀ i : Nat, i < 12 → tA t' 5 i = tA t 16 i) ∧ (∀ i : Nat, i < 12 → tA t' 6 i = tA t 17 i) ∧ (∀ i : Nat, i < 12 → tA t' 7 i = tA t 18 i) ∧ (∀ i : Nat, i < 24 → tA t' 8 i = tA t 19 i) ∧ (∀ i : Nat, i < 96 → tA t' 9 i = tA t 20 i) ∧ (∀ i : Nat, i < 3 → tA t' 11 i = tA t 22 i) ∧ (∀ i : Nat, i < 14 → tT t' 10 i = tT t 21 i)) := by
  refine CV_ent (d := d + 0) (Bk := bX4_become) (nL := 3) rfl rfl rfl (Nat.le_of_ble_eq_true rfl) ?_
  show Rn _ 1000000 0 [some (.ref 1), some (.ref 12), none] [] _ _
  have fr : Fr [(1, 10), (1, 11), (1, 12), (1, 13), (1, 14), (2, 100), (3, 100), (4, 100), (5, 100), (6, 100), (7, 100), (8, 100), (9, 100), (11, 100), (10, 101)] t t := Fr.rf _ _
  refine w_step rfl ?_
  refine w_aload rfl ?_
  refine w_getR (g_12_0 _) ?_
  refine w_push kc_0 ?_
  refine w_aload rfl ?_
  refine w_getR (g_1_0 _) ?_
  refine w_push kc_0 ?_
  refine w_push kc_12 ?_
  refine w_acopy (s := 0) (d := 0) (m := 12) (ai_13 _) (ai_2 _) (by omega) (by omega) (by omega) (by omega) (by omega) rfl ok (fun i _ _ => by have hXq := ok.a (c := 13) (i := 0 + (i - 0)) (ae_13 _); rw [(ae_2 _)]; exact hXq) (fun t1 ht1 ok1 => ?_)
  have fr1 := fr.uR ht1 (by simp)
  refine w_aload rfl ?_
  refine w_getR (g_12_1 _) ?_
  refine w_push kc_0 ?_
  refine w_aload rfl ?_
  refine w_getR (g_1_1 _) ?_
  refine w_push kc_0 ?_
  refine w_push kc_12 ?_
  refine w_acopy (s := 0) (d := 0) (m := 12) (ai_14 _) (ai_3 _) (by omega) (by omega) (by omega) (by omega) (by omega) rfl ok1 (fun i _ _ => by have hXq := ok1.a (c := 14) (i := 0 + (i - 0)) (ae_14 _); rw [(ae_3 _)]; exact hXq) (fun t2 ht2 ok2 => ?_)
  have fr2 := fr1.uR ht2 (by simp)
  refine w_aload rfl ?_
  refine w_getR (g_12_2 _) ?_
  refine w_push kc_0 ?_
  refine w_aload rfl ?_
  refine w_getR (g_1_2 _) ?_
  refine w_push kc_0 ?_
  refine w_push kc_12 ?_
  refine w_acopy (s := 0) (d := 0) (m := 12) (ai_15 _) (ai_4 _) (by omega) (by omega) (by omega) (by omega) (by omega) rfl ok2 (fun i _ _ => by have hXq := ok2.a (c := 15) (i := 0 + (i - 0)) (ae_15 _); rw [(ae_4 _)]; exact hXq) (fun t3 ht3 ok3 => ?_)
  have fr3 := fr2.uR ht3 (by simp)
  refine w_aload rfl ?_
  refine w_getR (g_12_3 _) ?_
  refine w_push kc_0 ?_
  refine w_aload rfl ?_
  refine w_getR (g_1_3 _) ?_
  refine w_push kc_0 ?_
  refine w_push kc_12 ?_
  refine w_acopy (s := 0) (d := 0) (m := 12) (ai_16 _) (ai_5 _) (by omega) (by omega) (by omega) (by omega) (by omega) rfl ok3 (fun i _ _ => by have hXq := ok3.a (c := 16) (i := 0 + (i - 0)) (ae_16 _); rw [(ae_5 _)]; exact hXq) (fun t4 ht4 ok4 => ?_)
  have fr4 := fr3.uR ht4 (by simp)
  refine w_aload rfl ?_
  refine w_getR (g_12_4 _) ?_
  refine w_push kc_0 ?_
  refine w_aload rfl ?_
  refine w_getR (g_1_4 _) ?_
  refine w_push kc_0 ?_
  refine w_push kc_12 ?_
  refine w_acopy (s := 0) (d := 0) (m := 12) (ai_17 _) (ai_6 _) (by omega) (by omega) (by omega) (by omega) (by omega) rfl ok4 (fun i _ _ => by have hXq := ok4.a (c := 17) (i := 0 + (i - 0)) (ae_17 _); rw [(ae_6 _)]; exact hXq) (fun t5 ht5 ok5 => ?_)
  have fr5 := fr4.uR ht5 (by simp)
  refine w_aload rfl ?_
  refine w_getR (g_12_5 _) ?_
  refine w_push kc_0 ?_
  refine w_aload rfl ?_
  refine w_getR (g_1_5 _) ?_
  refine w_push kc_0 ?_
  refine w_push kc_12 ?_
  refine w_acopy (s := 0) (d := 0) (m := 12) (ai_18 _) (ai_7 _) (by omega) (by omega) (by omega) (by omega) (by omega) rfl ok5 (fun i _ _ => by have hXq := ok5.a (c := 18) (i := 0 + (i - 0)) (ae_18 _); rw [(ae_7 _)]; exact hXq) (fun t6 ht6 ok6 => ?_)
  have fr6 := fr5.uR ht6 (by simp)
  refine w_aload rfl ?_
  refine w_getR (g_12_6 _) ?_
  refine w_push kc_0 ?_
  refine w_aload rfl ?_
  refine w_getR (g_1_6 _) ?_
  refine w_push kc_0 ?_
  refine w_push kc_24 ?_
  refine w_acopy (s := 0) (d := 0) (m := 24) (ai_19 _) (ai_8 _) (by omega) (by omega) (by omega) (by omega) (by omega) rfl ok6 (fun i _ _ => by have hXq := ok6.a (c := 19) (i := 0 + (i - 0)) (ae_19 _); rw [(ae_8 _)]; exact hXq) (fun t7 ht7 ok7 => ?_)
  have fr7 := fr6.uR ht7 (by simp)
  refine w_aload rfl ?_
  refine w_getR (g_12_7 _) ?_
  refine w_push kc_0 ?_
  refine w_aload rfl ?_
  refine w_getR (g_1_7 _) ?_
  refine w_push kc_0 ?_
  refine w_push kc_96 ?_
  refine w_acopy (s := 0) (d := 0) (m := 96) (ai_20 _) (ai_9 _) (by omega) (by omega) (by omega) (by omega) (by omega) rfl ok7 (fun i _ _ => by have hXq := ok7.a (c := 20) (i := 0 + (i - 0)) (ae_20 _); rw [(ae_9 _)]; exact hXq) (fun t8 ht8 ok8 => ?_)
  have fr8 := fr7.uR ht8 (by simp)
  refine w_aload rfl ?_
  refine w_getR (g_12_9 _) ?_
  refine w_push kc_0 ?_
  refine w_aload rfl ?_
  refine w_getR (g_1_9 _) ?_
  refine w_push kc_0 ?_
  refine w_push kc_3 ?_
  refine w_acopy (s := 0) (d := 0) (m := 3) (ai_22 _) (ai_11 _) (by omega) (by omega) (by omega) (by omega) (by omega) rfl ok8 (fun i _ _ => by have hXq := ok8.a (c := 22) (i := 0 + (i - 0)) (ae_22 _); rw [(ae_11 _)]; exact hXq) (fun t9 ht9 ok9 => ?_)
  have fr9 := fr8.uR ht9 (by simp)
  refine w_push kc_0 ?_
  refine w_istore (lv' := [some (.ref 1), some (.ref 12), some (.int (jI 0))]) rfl ?_
  refine w_goto ?_
  have key1 : ∀ (n1 M1 : Nat) (i : Int) (t10 : TS), OK t10 → Fr [(1, 10), (1, 11), (1, 12), (1, 13), (1, 14), (2, 100), (3, 100), (4, 100), (5, 100), (6, 100), (7, 100), (8, 100), (9, 100), (11, 100), (10, 101)] t t10 → (0 ≤ i) → (i ≤ 14) → (∀ c k, tA t10 c k = tA t9 c k) → (∀ c k, tI t10 c k = tI t c k) → (∀ m : Nat, (m : Int) < i → tT t10 10 m = tT t 21 m) → 14 - i < (n1 : Int) → 60 * n1 + (1000) ≤ M1 → Rn (bX4_become (EX FU (d + 0))) M1 1 [some (.ref 1), some (.ref 12), some (.int (jI i))] [] (mk t10) (PV (fun t' => OK t' ∧ Fr [(1, 10), (1, 11), (1, 12), (1, 13), (1, 14), (2, 100), (3, 100), (4, 100), (5, 100), (6, 100), (7, 100), (8, 100), (9, 100), (11, 100), (10, 101)] t t' ∧ (tI t' 1 10 = tI t 12 10) ∧ (tI t' 1 11 = tI t 12 11) ∧ (tI t' 1 12 = tI t 12 12) ∧ (tI t' 1 13 = tI t 12 13) ∧ (tI t' 1 14 = tI t 12 14) ∧ (∀ i : Nat, i < 12 → tA t' 2 i = tA t 13 i) ∧ (∀ i : Nat, i < 12 → tA t' 3 i = tA t 14 i) ∧ (∀ i : Nat, i < 12 → tA t' 4 i = tA t 15 i) ∧ (∀ i : Nat, i < 12 → tA t' 5 i = tA t 16 i) ∧ (∀ i : Nat, i < 12 → tA t' 6 i = tA t 17 i) ∧ (∀ i : Nat, i < 12 → tA t' 7 i = tA t 18 i) ∧ (∀ i : Nat, i < 24 → tA t' 8 i = tA t 19 i) ∧ (∀ i : Nat, i < 96 → tA t' 9 i = tA t 20 i) ∧ (∀ i : Nat, i < 3 → tA t' 11 i = tA t 22 i) ∧ (∀ i : Nat, i < 14 → tT t' 10 i = tT t 21 i))) := by
    intro n1
    induction n1 with
    | zero => intro M1 i t10 ok10 fr10 i1_0 i1_1 i1_2 i1_3 i1_4 v1 f1; exfalso; omega
    | succ n1 ih1 =>
      intro M1 i t10 ok10 fr10 i1_0 i1_1 i1_2 i1_3 i1_4 v1 f1
      obtain ⟨M1, rfl⟩ : ∃ m, M1 = m + 60 := ⟨M1 - 60, by omega⟩
      have frs := fr10
      refine w_step rfl ?_
      refine w_iload rfl ?_
      refine w_push kc_14 ?_
      refine w_cge (by omega) (fun h11 => ?_) (fun h11 => ?_)
      · skip
        refine w_step rfl ?_
        refine w_aload rfl ?_
        refine w_aload rfl ?_
        refine w_getI (g_12_10 _) fe_12_10 ok10 (fun z12 hz12 hl12 hh12 => ?_)
        refine w_putI (p_1_10 _) fe_1_10 ok10 (by omega) (fun t13 ht13 ok13 => ?_)
        have fr13 := fr10.uI ht13 (by simp)
        refine w_aload rfl ?_
        refine w_aload rfl ?_
        refine w_getI (g_12_11 _) fe_12_11 ok13 (fun z14 hz14 hl14 hh14 => ?_)
        refine w_putI (p_1_11 _) fe_1_11 ok13 (by omega) (fun t15 ht15 ok15 => ?_)
        have fr15 := fr13.uI ht15 (by simp)
        refine w_aload rfl ?_
        refine w_aload rfl ?_
        refine w_getI (g_12_12 _) fe_12_12 ok15 (fun z16 hz16 hl16 hh16 => ?_)
        refine w_putI (p_1_12 _) fe_1_12 ok15 (by omega) (fun t17 ht17 ok17 => ?_)
        have fr17 := fr15.uI ht17 (by simp)
        refine w_aload rfl ?_
        refine w_aload rfl ?_
        refine w_getI (g_12_13 _) fe_12_13 ok17 (fun z18 hz18 hl18 hh18 => ?_)
        refine w_putI (p_1_13 _) fe_1_13 ok17 (by omega) (fun t19 ht19 ok19 => ?_)
        have fr19 := fr17.uI ht19 (by simp)
        refine w_aload rfl ?_
        refine w_aload rfl ?_
        refine w_getI (g_12_14 _) fe_12_14 ok19 (fun z20 hz20 hl20 hh20 => ?_)
        refine w_putI (p_1_14 _) fe_1_14 ok19 (by omega) (fun t21 ht21 ok21 => ?_)
        have fr21 := fr19.uI ht21 (by simp)
        refine w_retV ?_
        exact ⟨ok21, fr21, (by subst_vars; simp [tI_uI, i1_3]), (by subst_vars; simp [tI_uI, i1_3]), (by subst_vars; simp [tI_uI, i1_3]), (by subst_vars; simp [tI_uI, i1_3]), (by subst_vars; simp [tI_uI, i1_3]), (by intro i hi; subst_vars; simp only [tA_uI]; rw [i1_2]; simp [tA_uR, hi]), (by intro i hi; subst_vars; simp only [tA_uI]; rw [i1_2]; simp [tA_uR, hi]), (by intro i hi; subst_vars; simp only [tA_uI]; rw [i1_2]; simp [tA_uR, hi]), (by intro i hi; subst_vars; simp only [tA_uI]; rw [i1_2]; simp [tA_uR, hi]), (by intro i hi; subst_vars; simp only [tA_uI]; rw [i1_2]; simp [tA_uR, hi]), (by intro i hi; subst_vars; simp only [tA_uI]; rw [i1_2]; simp [tA_uR, hi]), (by intro i hi; subst_vars; simp only [tA_uI]; rw [i1_2]; simp [tA_uR, hi]), (by intro i hi; subst_vars; simp only [tA_uI]; rw [i1_2]; simp [tA_uR, hi]), (by intro i hi; subst_vars; simp only [tA_uI]; rw [i1_2]; simp [tA_uR, hi]), (by intro m hm; subst_vars; exact i1_4 m (by omega))⟩
      refine w_aload rfl ?_
      refine w_getR (g_1_8 _) ?_
      refine w_iload rfl ?_
      refine w_aload rfl ?_
      refine w_getR (g_12_8 _) ?_
      refine w_iload rfl ?_
      refine w_texts (i := (i).toNat) (raT' isT12 _) (by omega) (by omega) ok10 (fun e22 => ?_) (fun j22 hj22 e22 => ?_)
      · skip
        have eq1 := e22
        refine w_aastN (i := (i).toNat) (raT' isT1 _) (wtT' isT1 _) (by omega) (by omega) ok10 (fun t23 ht23 ok23 => ?_)
        have fr23 := fr10.uT ht23 (by simp)
        refine w_iinc (lv' := [some (.ref 1), some (.ref 12), some (.int (jI (i + 1)))]) kc_1 rfl rfl ?_
        refine w_goto ?_
        exact ih1 _ (i + 1) t23 ok23 fr23 (by omega) (by omega) (by intro c k; rw [ht23]; exact i1_2 c k) (by intro c k; rw [ht23]; exact i1_3 c k) (by intro m hm; rw [ht23, tT_uT]; split <;> first | exact i1_4 m (by omega) | (rename_i q; rw [q.2, ← frs.2.2.1 21 (by simp)]; exact eq1.symm)) (by omega) (by omega)
      have eq1 := e22
      refine w_aastX (i := (i).toNat) (raT' isT1 _) (wtT' isT1 _) (by omega) (by omega) (by have hl := fr10.len; omega) ok10 (fun t24 ht24 ok24 => ?_)
      have fr24 := fr10.uT ht24 (by simp)
      refine w_iinc (lv' := [some (.ref 1), some (.ref 12), some (.int (jI (i + 1)))]) kc_1 rfl rfl ?_
      refine w_goto ?_
      exact ih1 _ (i + 1) t24 ok24 fr24 (by omega) (by omega) (by intro c k; rw [ht24]; exact i1_2 c k) (by intro c k; rw [ht24]; exact i1_3 c k) (by intro m hm; rw [ht24, tT_uT]; split <;> first | exact i1_4 m (by omega) | (rename_i q; rw [q.2, ← frs.2.2.1 21 (by simp)]; exact eq1.symm)) (by omega) (by omega)
  exact key1 15 _ 0 t9 ok9 fr9 (by omega) (by omega) (fun _ _ => rfl) (by intro c k; subst_vars; rfl) (by intro m hm; omega) (by omega) (by omega)
end
section
def dzF : Nat → Int → Int
  | 0, z => z
  | n + 1, z => znF (znF (znF (dzF n z)))
theorem deal_step {f g h F : Nat → Int} {n i v : Int} {M : Nat} (hn : 0 ≤ n) (hi : 0 ≤ i) (hM : M = (n + i).toNat) (h1 : ∀ m : Nat, g m = if n ≤ (m : Int) ∧ (m : Int) < n + i then F (m - n.toNat) else f m) (h2 : ∀ m : Nat, h m = if m = M then v else g m) (hv : v = F i.toNat) : ∀ m : Nat, h m = if n ≤ (m : Int) ∧ (m : Int) < n + (i + 1) then F (m - n.toNat) else f m := by
  intro m
  rw [h2 m]
  by_cases e : m = M
  · rw [if_pos e, if_pos (by omega), hv]
    congr 1
    omega
  · rw [if_neg e, h1 m]
    by_cases c : n ≤ (m : Int) ∧ (m : Int) < n + i
    · rw [if_pos c, if_pos (by omega)]
    · rw [if_neg c, if_neg (by omega)]
def kdF (z : Int) (j : Nat) : Int := drF (znF (dzF j z)) % 6
def ldF (z : Int) (j : Nat) : Int := drF (znF (znF (dzF j z))) % 7
def rdF (z : Int) (j : Nat) : Int := drF (znF (znF (znF (dzF j z)))) % 7
def prF (sz : Int) (rw w : Nat → Int) (m : Nat) : Int := if (m : Int) < sz ∧ ¬ rw m = -1000000005 then max 0 (min 99 (rw m)) else w m
def prC (sz : Int) (rw w : Nat → Int) : Nat → Int
  | 0 => 0
  | n + 1 => prC sz rw w n + (if prF sz rw w n = w n then 0 else 1)
theorem pour_c {sz c : Int} {rw w : Nat → Int} (hc : 0 ≤ c) : prC sz rw w (c + 1).toNat = prC sz rw w c.toNat + (if prF sz rw w c.toNat = w c.toNat then 0 else 1) := by
  rw [show (c + 1).toNat = c.toNat + 1 by omega]
  rfl
theorem pour_n {sz c acc : Int} {rw w : Nat → Int} (hc : 0 ≤ c) (h : ¬ (c < sz ∧ ¬ rw c.toNat = -1000000005)) (ha : acc = prC sz rw w c.toNat) : acc = prC sz rw w (c + 1).toNat := by
  have e : prF sz rw w c.toNat = w c.toNat := by
    unfold prF
    rw [if_neg (by omega)]
  rw [pour_c hc, if_pos e]
  omega
theorem pour_y {sz c acc v x : Int} {rw w : Nat → Int} (hc : 0 ≤ c) (h : c < sz ∧ ¬ rw c.toNat = -1000000005) (hv : v = max 0 (min 99 (rw c.toNat))) (ha : acc = prC sz rw w c.toNat) (hx : (v = w c.toNat ∧ x = 0) ∨ (¬ v = w c.toNat ∧ x = 1)) : acc + x = prC sz rw w (c + 1).toNat := by
  have e : prF sz rw w c.toNat = v := by
    unfold prF
    rw [if_pos (by omega), hv]
  rw [pour_c hc, e, ha]
  split <;> omega
theorem pour_wn {sz c : Int} {rw w g : Nat → Int} (hc : 0 ≤ c) (h : ¬ (c < sz ∧ ¬ rw c.toNat = -1000000005)) (hg : ∀ m : Nat, g m = if (m : Int) < c then prF sz rw w m else w m) : ∀ m : Nat, g m = if (m : Int) < c + 1 then prF sz rw w m else w m := by
  intro m
  rw [hg m]
  by_cases e : m = c.toNat
  · subst e
    rw [if_neg (by omega), if_pos (by omega)]
    unfold prF
    rw [if_neg (by omega)]
  · by_cases q : (m : Int) < c
    · rw [if_pos q, if_pos (by omega)]
    · rw [if_neg q, if_neg (by omega)]
theorem pour_wy {sz c v : Int} {rw w g h : Nat → Int} (hc : 0 ≤ c) (hn : c < sz ∧ ¬ rw c.toNat = -1000000005) (hv : v = max 0 (min 99 (rw c.toNat))) (hg : ∀ m : Nat, g m = if (m : Int) < c then prF sz rw w m else w m) (hh : ∀ m : Nat, h m = if m = c.toNat then v else g m) : ∀ m : Nat, h m = if (m : Int) < c + 1 then prF sz rw w m else w m := by
  intro m
  rw [hh m]
  by_cases e : m = c.toNat
  · subst e
    rw [if_pos rfl, if_pos (by omega)]
    unfold prF
    rw [if_pos (by omega), hv]
  · rw [if_neg e, hg m]
    by_cases q : (m : Int) < c
    · rw [if_pos q, if_pos (by omega)]
    · rw [if_neg q, if_neg (by omega)]
set_option maxRecDepth 100000 in
set_option maxHeartbeats 4000000 in
theorem c_X7_offerStone {d : Nat} {t : TS} {s m : Int}  (ok : OK t) (q0 : 0 ≤ s) (q1 : s ≤ 11) (q2 : 1 ≤ m) (q3 : m ≤ 6) : CV (EX FU (d + 4)) 73 [.ref 23, .ref 1, .int (jI s), .int (jI m)] (mk t) (fun t' => OK t' ∧ Fr [(35, 100), (36, 100)] t t') := by
  refine CV_ent (d := d + 3) (Bk := bX7_offerStone) (nL := 6) rfl rfl rfl (Nat.le_of_ble_eq_true rfl) ?_
  show Rn _ 1000000 0 [some (.ref 23), some (.ref 1), some (.int (jI s)), some (.int (jI m)), none, none] [] _ _
  have fr : Fr [(35, 100), (36, 100)] t t := Fr.rf _ _
  refine w_step rfl ?_
  refine w_push kc_0 ?_
  refine w_istore (lv' := [some (.ref 23), some (.ref 1), some (.int (jI s)), some (.int (jI m)), some (.int (jI 0)), none]) rfl ?_
  refine w_goto ?_
  have key1 : ∀ (n1 M1 : Nat) (p : Int) (t1 : TS), OK t1 → Fr [(35, 100), (36, 100)] t t1 → (0 ≤ p) → (p ≤ m) → 6 - p < (n1 : Int) → 60 * n1 + (90000) ≤ M1 → Rn (bX7_offerStone (EX FU (d + 3))) M1 1 [some (.ref 23), some (.ref 1), some (.int (jI s)), some (.int (jI m)), some (.int (jI p)), none] [] (mk t1) (PV (fun t' => OK t' ∧ Fr [(35, 100), (36, 100)] t t')) := by
    intro n1
    induction n1 with
    | zero => intro M1 p t1 ok1 fr1 i1_0 i1_1 v1 f1; exfalso; omega
    | succ n1 ih1 =>
      intro M1 p t1 ok1 fr1 i1_0 i1_1 v1 f1
      obtain ⟨M1, rfl⟩ : ∃ m, M1 = m + 60 := ⟨M1 - 60, by omega⟩
      refine w_step rfl ?_
      refine w_iload rfl ?_
      refine w_iload rfl ?_
      refine w_cge (by omega) (fun h2 => ?_) (fun h2 => ?_)
      · skip
        refine w_step rfl ?_
        refine w_push kc_1 ?_
        refine w_iload rfl ?_
        refine w_bin (fun z3 hz3 hl3 hh3 => ?_)
        have hu3 := shl_r (by omega) hz3
        refine w_push kc_1 ?_
        refine w_sub ?_
        refine w_istore (lv' := [some (.ref 23), some (.ref 1), some (.int (jI s)), some (.int (jI m)), some (.int (jI (z3 - 1))), none]) rfl ?_
        refine w_goto ?_
        have key5 : ∀ (n5 M5 : Nat) (e : Int) (o5 : Option Int) (t4 : TS), OK t4 → Fr [(35, 100), (36, 100)] t t4 → (0 ≤ e) → (e ≤ 63) → e < (n5 : Int) → 1000 * n5 + (1000) ≤ M5 → Rn (bX7_offerStone (EX FU (d + 3))) M5 5 [some (.ref 23), some (.ref 1), some (.int (jI s)), some (.int (jI m)), some (.int (jI e)), dv o5] [] (mk t4) (PV (fun t' => OK t' ∧ Fr [(35, 100), (36, 100)] t t')) := by
          intro n5
          induction n5 with
          | zero => intro M5 e o5 t4 ok4 fr4 i5_0 i5_1 v5 f5; exfalso; omega
          | succ n5 ih5 =>
            intro M5 e o5 t4 ok4 fr4 i5_0 i5_1 v5 f5
            obtain ⟨M5, rfl⟩ : ∃ m, M5 = m + 1000 := ⟨M5 - 1000, by omega⟩
            refine w_step rfl ?_
            refine w_iload rfl ?_
            refine w_ile (by omega) (fun h5 => ?_) (fun h5 => ?_)
            · skip
              refine w_step rfl ?_
              refine w_retV ?_
              exact ⟨ok4, fr4⟩
            refine w_push kc_0 ?_
            refine w_istore (lv' := [some (.ref 23), some (.ref 1), some (.int (jI s)), some (.int (jI m)), some (.int (jI e)), some (.int (jI 0))]) rfl ?_
            refine w_goto ?_
            have key6 : ∀ (n6 M6 : Nat) (p : Int) (t6 : TS), OK t6 → Fr [(35, 100), (36, 100)] t t6 → (0 ≤ p) → (p ≤ m) → 6 - p < (n6 : Int) → 60 * n6 + (1000 * n5 + 1000) ≤ M6 → Rn (bX7_offerStone (EX FU (d + 3))) M6 6 [some (.ref 23), some (.ref 1), some (.int (jI s)), some (.int (jI m)), some (.int (jI e)), some (.int (jI p))] [] (mk t6) (PV (fun t' => OK t' ∧ Fr [(35, 100), (36, 100)] t t')) := by
              intro n6
              induction n6 with
              | zero => intro M6 p t6 ok6 fr6 i6_0 i6_1 v6 f6; exfalso; omega
              | succ n6 ih6 =>
                intro M6 p t6 ok6 fr6 i6_0 i6_1 v6 f6
                obtain ⟨M6, rfl⟩ : ∃ m, M6 = m + 60 := ⟨M6 - 60, by omega⟩
                refine w_step rfl ?_
                refine w_iload rfl ?_
                refine w_iload rfl ?_
                refine w_cge (by omega) (fun h7 => ?_) (fun h7 => ?_)
                · skip
                  refine w_step rfl ?_
                  refine w_iinc (lv' := [some (.ref 23), some (.ref 1), some (.int (jI s)), some (.int (jI m)), some (.int (jI (e + (-1)))), some (.int (jI p))]) kc_m1 rfl rfl ?_
                  refine w_goto ?_
                  exact ih5 _ (e + (-1)) (some p) t6 ok6 fr6 (by omega) (by omega) (by omega) (by omega)
                refine w_iload rfl ?_
                refine w_iload rfl ?_
                refine w_bin (fun z8 hz8 hl8 hh8 => ?_)
                have hb1 := hz8
                refine w_push kc_1 ?_
                refine w_bin (fun z9 hz9 hl9 hh9 => ?_)
                have hu9 := ah_and1 hz9
                have hb2 := hz9
                refine w_ieq (by omega) (fun h10 => ?_) (fun h10 => ?_)
                · skip
                  refine w_step rfl ?_
                  refine w_iinc (lv' := [some (.ref 23), some (.ref 1), some (.int (jI s)), some (.int (jI m)), some (.int (jI e)), some (.int (jI (p + 1)))]) kc_1 rfl rfl ?_
                  refine w_goto ?_
                  exact ih6 _ (p + 1) t6 ok6 fr6 (by omega) (by omega) (by omega) (by omega)
                refine w_aload rfl ?_
                refine w_getR (g_23_1 _) ?_
                refine w_iload rfl ?_
                refine w_aload rfl ?_
                refine w_getR (g_23_1 _) ?_
                refine w_iload rfl ?_
                refine w_iald (i := (e).toNat) (ai_35 _) (by omega) (by omega) (ae_35 _) ok6 (fun z11 hz11 hl11 hh11 => ?_)
                refine w_aload rfl ?_
                refine w_getR (g_23_1 _) ?_
                refine w_iload rfl ?_
                refine w_push kc_1 ?_
                refine w_iload rfl ?_
                refine w_bin (fun z12 hz12 hl12 hh12 => ?_)
                have hu12 := shl_r (by omega) hz12
                have hb3 := bit_sub (by omega) (by omega) hb1 hb2 (by omega) hz12
                refine w_sub ?_
                refine w_iald (i := ((e - z12)).toNat) (ai_35 _) (by omega) (by omega) (ae_35 _) ok6 (fun z13 hz13 hl13 hh13 => ?_)
                refine w_aload rfl ?_
                refine w_getR (g_23_2 _) ?_
                refine w_iload rfl ?_
                refine w_iald (i := (p).toNat) (ai_36 _) (by omega) (by omega) (ae_36 _) ok6 (fun z14 hz14 hl14 hh14 => ?_)
                refine w_addW (fun z15 hz15 hl15 hh15 => ?_)
                refine w_min rfl (by omega) ?_
                refine w_iast (i := (e).toNat) (ai_35 _) rfl (by omega) (by omega) (ae_35 _) ok6 (by omega) (fun t16 ht16 ok16 => ?_)
                have fr16 := fr6.uA ht16 (by simp)
                refine w_goto ?_
                refine w_step rfl ?_
                refine w_iinc (lv' := [some (.ref 23), some (.ref 1), some (.int (jI s)), some (.int (jI m)), some (.int (jI e)), some (.int (jI (p + 1)))]) kc_1 rfl rfl ?_
                refine w_goto ?_
                exact ih6 _ (p + 1) t16 ok16 fr16 (by omega) (by omega) (by omega) (by omega)
            exact key6 7 _ 0 t4 ok4 fr4 (by omega) (by omega) (by omega) (by omega)
        exact key5 64 _ (z3 - 1) none t1 ok1 fr1 (by omega) (by omega) (by omega) (by omega)
      refine w_aload rfl ?_
      refine w_getR (g_23_2 _) ?_
      refine w_iload rfl ?_
      refine w_push kc_16 ?_
      refine w_aload rfl ?_
      refine w_iload rfl ?_
      refine w_iload rfl ?_
      refine w_callV2I (oj_1 _).choose_spec rfl (c_X4_leastOff isT1 ok1 (by omega) (by omega) (by omega) (by omega)) ?_
      rintro z17 t17 ⟨rfl, hp17_0, hp17_1⟩
      refine w_mul ?_
      refine w_iload rfl ?_
      refine w_ine (by omega) (fun h18 => ?_) (fun h18 => ?_)
      · skip
        refine w_step rfl ?_
        refine w_push kc_0 ?_
        refine w_goto ?_
        refine w_step rfl ?_
        refine w_add ?_
        refine w_iast (i := (p).toNat) (ai_36 _) rfl (by omega) (by omega) (ae_36 _) ok1 (by omega) (fun t19 ht19 ok19 => ?_)
        have fr19 := fr1.uA ht19 (by simp)
        refine w_iinc (lv' := [some (.ref 23), some (.ref 1), some (.int (jI s)), some (.int (jI m)), some (.int (jI (p + 1))), none]) kc_1 rfl rfl ?_
        refine w_goto ?_
        exact ih1 _ (p + 1) t19 ok19 fr19 (by omega) (by omega) (by omega) (by omega)
      refine w_iload rfl ?_
      refine w_goto ?_
      refine w_step rfl ?_
      refine w_add ?_
      refine w_iast (i := (p).toNat) (ai_36 _) rfl (by omega) (by omega) (ae_36 _) ok1 (by omega) (fun t20 ht20 ok20 => ?_)
      have fr20 := fr1.uA ht20 (by simp)
      refine w_iinc (lv' := [some (.ref 23), some (.ref 1), some (.int (jI s)), some (.int (jI m)), some (.int (jI (p + 1))), none]) kc_1 rfl rfl ?_
      refine w_goto ?_
      exact ih1 _ (p + 1) t20 ok20 fr20 (by omega) (by omega) (by omega) (by omega)
  exact key1 7 _ 0 t ok fr (by omega) (by omega) (by omega) (by omega)
set_option maxRecDepth 100000 in
set_option maxHeartbeats 4000000 in
theorem c_X7_bestLaying {d : Nat} {t : TS} {m w : Int}  (ok : OK t) (q0 : 1 ≤ m) (q1 : m ≤ 6) (q2 : -2147483648 ≤ w) (q3 : w ≤ 2147483647) : CI (EX FU (d + 5)) 72 [.ref 23, .ref 1, .int (jI m), .int (jI w)] (mk t) (fun z t' => OK t' ∧ Fr [(35, 100), (36, 100)] t t' ∧ (-2147483648 ≤ z) ∧ (z ≤ 2147483647)) := by
  refine CI_ent (d := d + 4) (Bk := bX7_bestLaying) (nL := 5) rfl rfl rfl (Nat.le_of_ble_eq_true rfl) ?_
  show Rn _ 1000000 0 [some (.ref 23), some (.ref 1), some (.int (jI m)), some (.int (jI w)), none] [] _ _
  have fr : Fr [(35, 100), (36, 100)] t t := Fr.rf _ _
  refine w_step rfl ?_
  refine w_aload rfl ?_
  refine w_getR (g_23_1 _) ?_
  refine w_push kc_16777216 ?_
  refine w_callS2V rfl (c_J7_fill_53178 (fun u => ai_35 u) ok (by intro i; rw [(ae_35 i)]; exact ⟨by decide, by decide⟩)) ?_
  rintro t1 ⟨ok1, fq1, hp1_0⟩
  have fr1 := fr.then fq1 (by simp)
  refine w_aload rfl ?_
  refine w_getR (g_23_1 _) ?_
  refine w_push kc_0 ?_
  refine w_push kc_0 ?_
  refine w_iast (i := 0) (ai_35 _) rfl (by omega) (by omega) (ae_35 _) ok1 (by omega) (fun t2 ht2 ok2 => ?_)
  have fr2 := fr1.uA ht2 (by simp)
  refine w_push kc_0 ?_
  refine w_istore (lv' := [some (.ref 23), some (.ref 1), some (.int (jI m)), some (.int (jI w)), some (.int (jI 0))]) rfl ?_
  refine w_goto ?_
  have key1 : ∀ (n1 M1 : Nat) (s : Int) (t3 : TS), OK t3 → Fr [(35, 100), (36, 100)] t t3 → (0 ≤ s) → (s ≤ 12) → 12 - s < (n1 : Int) → 60 * n1 + (1000) ≤ M1 → Rn (bX7_bestLaying (EX FU (d + 4))) M1 1 [some (.ref 23), some (.ref 1), some (.int (jI m)), some (.int (jI w)), some (.int (jI s))] [] (mk t3) (PI (fun z t' => OK t' ∧ Fr [(35, 100), (36, 100)] t t' ∧ (-2147483648 ≤ z) ∧ (z ≤ 2147483647))) := by
    intro n1
    induction n1 with
    | zero => intro M1 s t3 ok3 fr3 i1_0 i1_1 v1 f1; exfalso; omega
    | succ n1 ih1 =>
      intro M1 s t3 ok3 fr3 i1_0 i1_1 v1 f1
      obtain ⟨M1, rfl⟩ : ∃ m, M1 = m + 60 := ⟨M1 - 60, by omega⟩
      refine w_step rfl ?_
      refine w_iload rfl ?_
      refine w_aload rfl ?_
      refine w_getI (g_1_10 _) fe_1_10 ok3 (fun z4 hz4 hl4 hh4 => ?_)
      refine w_cge (by omega) (fun h5 => ?_) (fun h5 => ?_)
      · skip
        refine w_step rfl ?_
        refine w_aload rfl ?_
        refine w_getR (g_23_1 _) ?_
        refine w_push kc_1 ?_
        refine w_iload rfl ?_
        refine w_bin (fun z6 hz6 hl6 hh6 => ?_)
        have hu6 := shl_r (by omega) hz6
        refine w_push kc_1 ?_
        refine w_sub ?_
        refine w_iald (i := ((z6 - 1)).toNat) (ai_35 _) (by omega) (by omega) (ae_35 _) ok3 (fun z7 hz7 hl7 hh7 => ?_)
        refine w_istore (lv' := [some (.ref 23), some (.ref 1), some (.int (jI m)), some (.int (jI w)), some (.int (jI z7))]) rfl ?_
        refine w_iload rfl ?_
        refine w_push kc_16777216 ?_
        refine w_clt (by omega) (fun h8 => ?_) (fun h8 => ?_)
        · skip
          refine w_step rfl ?_
          refine w_iload rfl ?_
          refine w_ine (by omega) (fun h9 => ?_) (fun h9 => ?_)
          · skip
            refine w_step rfl ?_
            refine w_iload rfl ?_
            refine w_push kc_16 ?_
            refine w_divG (by omega) (fun z10 hz10 hl10 hh10 => ?_)
            refine w_goto ?_
            refine w_step rfl ?_
            refine w_retI rfl ?_
            exact ⟨ok3, fr3, (by omega), (by omega)⟩
          refine w_iload rfl ?_
          refine w_push kc_16 ?_
          refine w_divG (by omega) (fun z11 hz11 hl11 hh11 => ?_)
          refine w_goto ?_
          refine w_step rfl ?_
          refine w_retI rfl ?_
          exact ⟨ok3, fr3, (by omega), (by omega)⟩
        refine w_push kc_m1000000005 ?_
        refine w_retI rfl ?_
        exact ⟨ok3, fr3, (by omega), (by omega)⟩
      refine w_aload rfl ?_
      refine w_getR (g_1_3 _) ?_
      refine w_iload rfl ?_
      refine w_iald (i := (s).toNat) (ai_5 _) (by omega) (by omega) (ae_5 _) ok3 (fun z12 hz12 hl12 hh12 => ?_)
      refine w_push kc_12 ?_
      refine w_ceq (by omega) (fun h13 => ?_) (fun h13 => ?_)
      · skip
        refine w_step rfl ?_
        refine w_aload rfl ?_
        refine w_aload rfl ?_
        refine w_iload rfl ?_
        refine w_iload rfl ?_
        refine w_callV3V (oj_23 _).choose_spec rfl (c_X7_offerStone ok3 (by omega) (by omega) (by omega) (by omega)) ?_
        rintro t14 ⟨ok14, fq14⟩
        have fr14 := fr3.then fq14 (by simp)
        refine w_goto ?_
        refine w_step rfl ?_
        refine w_iinc (lv' := [some (.ref 23), some (.ref 1), some (.int (jI m)), some (.int (jI w)), some (.int (jI (s + 1)))]) kc_1 rfl rfl ?_
        refine w_goto ?_
        exact ih1 _ (s + 1) t14 ok14 fr14 (by omega) (by omega) (by omega) (by omega)
      refine w_aload rfl ?_
      refine w_getR (g_1_3 _) ?_
      refine w_iload rfl ?_
      refine w_iald (i := (s).toNat) (ai_5 _) (by omega) (by omega) (ae_5 _) ok3 (fun z15 hz15 hl15 hh15 => ?_)
      refine w_iload rfl ?_
      refine w_cge (by omega) (fun h16 => ?_) (fun h16 => ?_)
      · skip
        refine w_step rfl ?_
        refine w_iinc (lv' := [some (.ref 23), some (.ref 1), some (.int (jI m)), some (.int (jI w)), some (.int (jI (s + 1)))]) kc_1 rfl rfl ?_
        refine w_goto ?_
        exact ih1 _ (s + 1) t3 ok3 fr3 (by omega) (by omega) (by omega) (by omega)
      refine w_goto ?_
      refine w_step rfl ?_
      refine w_aload rfl ?_
      refine w_aload rfl ?_
      refine w_iload rfl ?_
      refine w_iload rfl ?_
      refine w_callV3V (oj_23 _).choose_spec rfl (c_X7_offerStone ok3 (by omega) (by omega) (by omega) (by omega)) ?_
      rintro t17 ⟨ok17, fq17⟩
      have fr17 := fr3.then fq17 (by simp)
      refine w_goto ?_
      refine w_step rfl ?_
      refine w_iinc (lv' := [some (.ref 23), some (.ref 1), some (.int (jI m)), some (.int (jI w)), some (.int (jI (s + 1)))]) kc_1 rfl rfl ?_
      refine w_goto ?_
      exact ih1 _ (s + 1) t17 ok17 fr17 (by omega) (by omega) (by omega) (by omega)
  exact key1 13 _ 0 t2 ok2 fr2 (by omega) (by omega) (by omega) (by omega)
end
section
set_option maxRecDepth 100000 in
set_option maxHeartbeats 4000000 in
theorem c_X8_as {d : Nat} {t : TS} {s k : Int}  (ok : OK t) (q0 : -2147483648 ≤ s) (q1 : s ≤ 2147483647) (q2 : -2147483648 ≤ k) (q3 : k ≤ 2147483647) : CI (EX FU (d + 3)) 78 [.ref 0, .int (jI s), .int (jI k)] (mk t) (fun z t' => t = t' ∧ (((¬ (0 ≤ s ∧ s ≤ tI t 1 10 - 1 ∧ 0 ≤ k ∧ k ≤ 5)) ∧ z = (-1000000001)) ∨ ((0 ≤ s ∧ s ≤ tI t 1 10 - 1 ∧ 0 ≤ k ∧ k ≤ 5) ∧ (tA t 2 s.toNat = k ∨ k = 0 ∨ (k = 1 ∧ tA t 2 s.toNat = 3) ∨ (k = 2 ∧ tA t 2 s.toNat = 4)) ∧ z = tA t 3 s.toNat) ∨ ((0 ≤ s ∧ s ≤ tI t 1 10 - 1 ∧ 0 ≤ k ∧ k ≤ 5) ∧ (¬ (tA t 2 s.toNat = k ∨ k = 0 ∨ (k = 1 ∧ tA t 2 s.toNat = 3) ∨ (k = 2 ∧ tA t 2 s.toNat = 4))) ∧ z = (-1000000012)))) := by
  refine CI_ent (d := d + 2) (Bk := bX8_as) (nL := 3) rfl rfl rfl (Nat.le_of_ble_eq_true rfl) ?_
  show Rn _ 1000000 0 [some (.ref 0), some (.int (jI s)), some (.int (jI k))] [] _ _
  have hn0 := (ok.f fe_1_10).1
  have hn1 := (ok.f fe_1_10).2
  refine w_step rfl ?_
  refine w_aload rfl ?_
  refine w_iload rfl ?_
  refine w_callV1I (oj_0 _).choose_spec rfl (c_X8_isStone ok (by omega) (by omega)) ?_
  rintro z1 t1 ⟨rfl, hp1_0⟩
  rcases hp1_0 with ⟨rfl, hp1_0⟩ | ⟨rfl, hp1_0⟩
  · skip
    refine w_ieq (by omega) (fun _ => ?_) (fun h => absurd (by omega) h)
    refine w_step rfl ?_
    refine w_push kc_m1000000001 ?_
    refine w_retI rfl ?_
    exact ⟨rfl, (by first | (exact Or.inl ⟨by omega, by first | omega | (subst_vars; rfl)⟩) | (exact Or.inr (Or.inl ⟨by omega, by omega, by first | omega | (subst_vars; rfl)⟩)) | (exact Or.inr (Or.inr (⟨by omega, by omega, by first | omega | (subst_vars; rfl)⟩))))⟩
  refine w_ieq (by omega) (fun h => absurd h (by omega)) (fun _ => ?_)
  refine w_iload rfl ?_
  refine w_push kc_0 ?_
  refine w_push kc_5 ?_
  refine w_callS3I rfl (c_X8_within ok (by omega) (by omega) (by omega) (by omega) (by omega) (by omega)) ?_
  rintro z2 t2 ⟨rfl, hp2_0⟩
  rcases hp2_0 with ⟨rfl, hp2_0⟩ | ⟨rfl, hp2_0⟩
  · skip
    refine w_ine (by omega) (fun h => absurd h (by omega)) (fun _ => ?_)
    refine w_goto ?_
    refine w_step rfl ?_
    refine w_push kc_m1000000001 ?_
    refine w_retI rfl ?_
    exact ⟨rfl, (by first | (exact Or.inl ⟨by omega, by first | omega | (subst_vars; rfl)⟩) | (exact Or.inr (Or.inl ⟨by omega, by omega, by first | omega | (subst_vars; rfl)⟩)) | (exact Or.inr (Or.inr (⟨by omega, by omega, by first | omega | (subst_vars; rfl)⟩))))⟩
  refine w_ine (by omega) (fun _ => ?_) (fun h => absurd (by omega) h)
  refine w_step rfl ?_
  refine w_aload rfl ?_
  refine w_getR (g_0_0 _) ?_
  refine w_getR (g_1_0 _) ?_
  refine w_iload rfl ?_
  refine w_iald (i := (s).toNat) (ai_2 _) (by omega) (by omega) (ae_2 _) ok (fun z3 hz3 hl3 hh3 => ?_)
  refine w_iload rfl ?_
  refine w_callS2I rfl (c_X0_isOf ok (by omega) (by omega) (by omega) (by omega)) ?_
  rintro z4 t4 ⟨rfl, hp4_0⟩
  rcases hp4_0 with ⟨rfl, hp4_0⟩ | ⟨rfl, hp4_0⟩
  · skip
    refine w_ieq (by omega) (fun _ => ?_) (fun h => absurd (by omega) h)
    refine w_step rfl ?_
    refine w_push kc_m1000000012 ?_
    refine w_goto ?_
    refine w_step rfl ?_
    refine w_retI rfl ?_
    exact ⟨rfl, (by first | (exact Or.inl ⟨by omega, by first | omega | (subst_vars; rfl)⟩) | (exact Or.inr (Or.inl ⟨by omega, by omega, by first | omega | (subst_vars; rfl)⟩)) | (exact Or.inr (Or.inr (⟨by omega, by omega, by first | omega | (subst_vars; rfl)⟩))))⟩
  refine w_ieq (by omega) (fun h => absurd h (by omega)) (fun _ => ?_)
  refine w_aload rfl ?_
  refine w_getR (g_0_0 _) ?_
  refine w_getR (g_1_1 _) ?_
  refine w_iload rfl ?_
  refine w_iald (i := (s).toNat) (ai_3 _) (by omega) (by omega) (ae_3 _) ok (fun z5 hz5 hl5 hh5 => ?_)
  refine w_goto ?_
  refine w_step rfl ?_
  refine w_retI rfl ?_
  exact ⟨rfl, (by first | (exact Or.inl ⟨by omega, by first | omega | (subst_vars; rfl)⟩) | (exact Or.inr (Or.inl ⟨by omega, by omega, by first | omega | (subst_vars; rfl)⟩)) | (exact Or.inr (Or.inr (⟨by omega, by omega, by first | omega | (subst_vars; rfl)⟩))))⟩
set_option maxRecDepth 100000 in
set_option maxHeartbeats 4000000 in
theorem c_X8_want {d : Nat} {t : TS} {c v : Int}  (ok : OK t) (q0 : -2147483648 ≤ c) (q1 : c ≤ 2147483647) (q2 : -2147483648 ≤ v) (q3 : v ≤ 2147483647) : CI (EX FU (d + 2)) 82 [.ref 0, .int (jI c), .int (jI v)] (mk t) (fun z t' => OK t' ∧ Fr [(8, 100)] t t' ∧ (((¬ (0 ≤ c ∧ c ≤ 23 ∧ 0 ≤ v ∧ v ≤ 99)) ∧ z = (-1000000001) ∧ t' = t) ∨ ((0 ≤ c ∧ c ≤ 23 ∧ 0 ≤ v ∧ v ≤ 99) ∧ z = tA t 8 c.toNat ∧ (t' = uA t 8 c.toNat v)))) := by
  refine CI_ent (d := d + 1) (Bk := bX8_want) (nL := 4) rfl rfl rfl (Nat.le_of_ble_eq_true rfl) ?_
  show Rn _ 1000000 0 [some (.ref 0), some (.int (jI c)), some (.int (jI v)), none] [] _ _
  have fr : Fr [(8, 100)] t t := Fr.rf _ _
  have hn0 := (ok.f fe_1_10).1
  have hn1 := (ok.f fe_1_10).2
  refine w_step rfl ?_
  refine w_iload rfl ?_
  refine w_push kc_0 ?_
  refine w_push kc_23 ?_
  refine w_callS3I rfl (c_X8_within ok (by omega) (by omega) (by omega) (by omega) (by omega) (by omega)) ?_
  rintro z1 t1 ⟨rfl, hp1_0⟩
  rcases hp1_0 with ⟨rfl, hp1_0⟩ | ⟨rfl, hp1_0⟩
  · skip
    refine w_ieq (by omega) (fun _ => ?_) (fun h => absurd (by omega) h)
    refine w_step rfl ?_
    refine w_push kc_m1000000001 ?_
    refine w_retI rfl ?_
    exact ⟨ok, fr, (by first | (exact Or.inl ⟨by omega, by first | omega | (subst_vars; rfl), rfl⟩) | (exact Or.inr (⟨by omega, by first | omega | (subst_vars; rfl), by assumption⟩)))⟩
  refine w_ieq (by omega) (fun h => absurd h (by omega)) (fun _ => ?_)
  refine w_iload rfl ?_
  refine w_push kc_0 ?_
  refine w_push kc_99 ?_
  refine w_callS3I rfl (c_X8_within ok (by omega) (by omega) (by omega) (by omega) (by omega) (by omega)) ?_
  rintro z2 t2 ⟨rfl, hp2_0⟩
  rcases hp2_0 with ⟨rfl, hp2_0⟩ | ⟨rfl, hp2_0⟩
  · skip
    refine w_ine (by omega) (fun h => absurd h (by omega)) (fun _ => ?_)
    refine w_goto ?_
    refine w_step rfl ?_
    refine w_push kc_m1000000001 ?_
    refine w_retI rfl ?_
    exact ⟨ok, fr, (by first | (exact Or.inl ⟨by omega, by first | omega | (subst_vars; rfl), rfl⟩) | (exact Or.inr (⟨by omega, by first | omega | (subst_vars; rfl), by assumption⟩)))⟩
  refine w_ine (by omega) (fun _ => ?_) (fun h => absurd (by omega) h)
  refine w_step rfl ?_
  refine w_aload rfl ?_
  refine w_getR (g_0_0 _) ?_
  refine w_getR (g_1_6 _) ?_
  refine w_iload rfl ?_
  refine w_iald (i := (c).toNat) (ai_8 _) (by omega) (by omega) (ae_8 _) ok (fun z3 hz3 hl3 hh3 => ?_)
  refine w_istore (lv' := [some (.ref 0), some (.int (jI c)), some (.int (jI v)), some (.int (jI z3))]) rfl ?_
  refine w_aload rfl ?_
  refine w_getR (g_0_0 _) ?_
  refine w_getR (g_1_6 _) ?_
  refine w_iload rfl ?_
  refine w_iload rfl ?_
  refine w_iast (i := (c).toNat) (ai_8 _) rfl (by omega) (by omega) (ae_8 _) ok (by omega) (fun t4 ht4 ok4 => ?_)
  have fr4 := fr.uA ht4 (by simp)
  refine w_iload rfl ?_
  refine w_retI rfl ?_
  exact ⟨ok4, fr4, (by first | (exact Or.inl ⟨by omega, by first | omega | (subst_vars; rfl), rfl⟩) | (exact Or.inr (⟨by omega, by first | omega | (subst_vars; rfl), by assumption⟩)))⟩
set_option maxRecDepth 100000 in
set_option maxHeartbeats 4000000 in
theorem c_X8_wind {d : Nat} {t : TS} {v : Int}  (ok : OK t) (q0 : -2147483648 ≤ v) (q1 : v ≤ 2147483647) : CI (EX FU (d + 2)) 83 [.ref 0, .int (jI v)] (mk t) (fun z t' => OK t' ∧ Fr [(1, 12)] t t' ∧ (((¬ (0 ≤ v ∧ v ≤ 100)) ∧ z = (-1000000001) ∧ t' = t) ∨ ((0 ≤ v ∧ v ≤ 100) ∧ z = tI t 1 12 ∧ (t' = uI t 1 12 v)))) := by
  refine CI_ent (d := d + 1) (Bk := bX8_wind) (nL := 3) rfl rfl rfl (Nat.le_of_ble_eq_true rfl) ?_
  show Rn _ 1000000 0 [some (.ref 0), some (.int (jI v)), none] [] _ _
  have fr : Fr [(1, 12)] t t := Fr.rf _ _
  have hn0 := (ok.f fe_1_10).1
  have hn1 := (ok.f fe_1_10).2
  refine w_step rfl ?_
  refine w_iload rfl ?_
  refine w_push kc_0 ?_
  refine w_push kc_100 ?_
  refine w_callS3I rfl (c_X8_within ok (by omega) (by omega) (by omega) (by omega) (by omega) (by omega)) ?_
  rintro z1 t1 ⟨rfl, hp1_0⟩
  rcases hp1_0 with ⟨rfl, hp1_0⟩ | ⟨rfl, hp1_0⟩
  · skip
    refine w_ine (by omega) (fun h => absurd h (by omega)) (fun _ => ?_)
    refine w_push kc_m1000000001 ?_
    refine w_retI rfl ?_
    exact ⟨ok, fr, (by first | (exact Or.inl ⟨by omega, by first | omega | (subst_vars; rfl), rfl⟩) | (exact Or.inr (⟨by omega, by first | omega | (subst_vars; rfl), by assumption⟩)))⟩
  refine w_ine (by omega) (fun _ => ?_) (fun h => absurd (by omega) h)
  refine w_step rfl ?_
  refine w_aload rfl ?_
  refine w_getR (g_0_0 _) ?_
  refine w_getI (g_1_12 _) fe_1_12 ok (fun z2 hz2 hl2 hh2 => ?_)
  refine w_istore (lv' := [some (.ref 0), some (.int (jI v)), some (.int (jI z2))]) rfl ?_
  refine w_aload rfl ?_
  refine w_getR (g_0_0 _) ?_
  refine w_iload rfl ?_
  refine w_putI (p_1_12 _) fe_1_12 ok (by omega) (fun t3 ht3 ok3 => ?_)
  have fr3 := fr.uI ht3 (by simp)
  refine w_iload rfl ?_
  refine w_retI rfl ?_
  exact ⟨ok3, fr3, (by first | (exact Or.inl ⟨by omega, by first | omega | (subst_vars; rfl), rfl⟩) | (exact Or.inr (⟨by omega, by first | omega | (subst_vars; rfl), by assumption⟩)))⟩
set_option maxRecDepth 100000 in
set_option maxHeartbeats 4000000 in
theorem c_X8_seed {d : Nat} {t : TS} {v : Int}  (ok : OK t) (q0 : -2147483648 ≤ v) (q1 : v ≤ 2147483647) : CI (EX FU (d + 1)) 85 [.ref 0, .int (jI v)] (mk t) (fun z t' => OK t' ∧ Fr [(1, 14)] t t' ∧ (z = tI t 1 14) ∧ (t' = uI t 1 14 v)) := by
  refine CI_ent (d := d + 0) (Bk := bX8_seed) (nL := 3) rfl rfl rfl (Nat.le_of_ble_eq_true rfl) ?_
  show Rn _ 1000000 0 [some (.ref 0), some (.int (jI v)), none] [] _ _
  have fr : Fr [(1, 14)] t t := Fr.rf _ _
  have hn0 := (ok.f fe_1_10).1
  have hn1 := (ok.f fe_1_10).2
  refine w_step rfl ?_
  refine w_aload rfl ?_
  refine w_getR (g_0_0 _) ?_
  refine w_getI (g_1_14 _) fe_1_14 ok (fun z1 hz1 hl1 hh1 => ?_)
  refine w_istore (lv' := [some (.ref 0), some (.int (jI v)), some (.int (jI z1))]) rfl ?_
  refine w_aload rfl ?_
  refine w_getR (g_0_0 _) ?_
  refine w_iload rfl ?_
  refine w_putI (p_1_14 _) fe_1_14 ok (by omega) (fun t2 ht2 ok2 => ?_)
  have fr2 := fr.uI ht2 (by simp)
  refine w_iload rfl ?_
  refine w_retI rfl ?_
  exact ⟨ok2, fr2, (by omega), (by assumption)⟩
set_option maxRecDepth 100000 in
set_option maxHeartbeats 4000000 in
theorem c_X8_best {d : Nat} {t : TS} {m w : Int}  (ok : OK t) (q0 : -2147483648 ≤ m) (q1 : m ≤ 2147483647) (q2 : -2147483648 ≤ w) (q3 : w ≤ 2147483647) : CI (EX FU (d + 6)) 89 [.ref 0, .int (jI m), .int (jI w)] (mk t) (fun z t' => OK t' ∧ Fr [(35, 100), (36, 100)] t t' ∧ (-2147483648 ≤ z) ∧ (z ≤ 2147483647)) := by
  refine CI_ent (d := d + 5) (Bk := bX8_best) (nL := 3) rfl rfl rfl (Nat.le_of_ble_eq_true rfl) ?_
  show Rn _ 1000000 0 [some (.ref 0), some (.int (jI m)), some (.int (jI w))] [] _ _
  have fr : Fr [(35, 100), (36, 100)] t t := Fr.rf _ _
  have hn0 := (ok.f fe_1_10).1
  have hn1 := (ok.f fe_1_10).2
  refine w_step rfl ?_
  refine w_iload rfl ?_
  refine w_push kc_1 ?_
  refine w_push kc_6 ?_
  refine w_callS3I rfl (c_X8_within ok (by omega) (by omega) (by omega) (by omega) (by omega) (by omega)) ?_
  rintro z1 t1 ⟨rfl, hp1_0⟩
  rcases hp1_0 with ⟨rfl, hp1_0⟩ | ⟨rfl, hp1_0⟩
  · skip
    refine w_ieq (by omega) (fun _ => ?_) (fun h => absurd (by omega) h)
    refine w_step rfl ?_
    refine w_push kc_m1000000001 ?_
    refine w_retI rfl ?_
    exact ⟨ok, fr, (by omega), (by omega)⟩
  refine w_ieq (by omega) (fun h => absurd h (by omega)) (fun _ => ?_)
  refine w_iload rfl ?_
  refine w_push kc_0 ?_
  refine w_push kc_1 ?_
  refine w_callS3I rfl (c_X8_within ok (by omega) (by omega) (by omega) (by omega) (by omega) (by omega)) ?_
  rintro z2 t2 ⟨rfl, hp2_0⟩
  rcases hp2_0 with ⟨rfl, hp2_0⟩ | ⟨rfl, hp2_0⟩
  · skip
    refine w_ine (by omega) (fun h => absurd h (by omega)) (fun _ => ?_)
    refine w_goto ?_
    refine w_step rfl ?_
    refine w_push kc_m1000000001 ?_
    refine w_retI rfl ?_
    exact ⟨ok, fr, (by omega), (by omega)⟩
  refine w_ine (by omega) (fun _ => ?_) (fun h => absurd (by omega) h)
  refine w_step rfl ?_
  refine w_aload rfl ?_
  refine w_getR (g_0_2 _) ?_
  refine w_aload rfl ?_
  refine w_getR (g_0_0 _) ?_
  refine w_iload rfl ?_
  refine w_iload rfl ?_
  refine w_callV3I (oj_23 _).choose_spec rfl (c_X7_bestLaying ok (by omega) (by omega) (by omega) (by omega)) ?_
  rintro z3 t3 ⟨ok3, fq3, hp3_0, hp3_1⟩
  have fr3 := fr.then fq3 (by simp)
  refine w_retI rfl ?_
  exact ⟨ok3, fr3, (by omega), (by omega)⟩
set_option maxRecDepth 100000 in
set_option maxHeartbeats 4000000 in
theorem c_X8_seen {d : Nat} {t : TS} {k w : Int}  (ok : OK t) (q0 : -2147483648 ≤ k) (q1 : k ≤ 2147483647) (q2 : -2147483648 ≤ w) (q3 : w ≤ 2147483647) : CI (EX FU (d + 4)) 97 [.ref 0, .int (jI k), .int (jI w)] (mk t) (fun z t' => t = t' ∧ (-2147483648 ≤ z) ∧ (z ≤ 2147483647)) := by
  refine CI_ent (d := d + 3) (Bk := bX8_seen) (nL := 7) rfl rfl rfl (Nat.le_of_ble_eq_true rfl) ?_
  show Rn _ 1000000 0 [some (.ref 0), some (.int (jI k)), some (.int (jI w)), none, none, none, none] [] _ _
  have hn0 := (ok.f fe_1_10).1
  have hn1 := (ok.f fe_1_10).2
  refine w_step rfl ?_
  refine w_iload rfl ?_
  refine w_callS1I rfl (c_X8_isSheet ok (by omega) (by omega)) ?_
  rintro z1 t1 ⟨rfl, hp1_0⟩
  rcases hp1_0 with ⟨rfl, hp1_0⟩ | ⟨rfl, hp1_0⟩
  · skip
    refine w_ieq (by omega) (fun _ => ?_) (fun h => absurd (by omega) h)
    refine w_step rfl ?_
    refine w_push kc_m1000000001 ?_
    refine w_retI rfl ?_
    exact ⟨rfl, (by omega), (by omega)⟩
  refine w_ieq (by omega) (fun h => absurd h (by omega)) (fun _ => ?_)
  refine w_iload rfl ?_
  refine w_push kc_0 ?_
  refine w_push kc_1 ?_
  refine w_callS3I rfl (c_X8_within ok (by omega) (by omega) (by omega) (by omega) (by omega) (by omega)) ?_
  rintro z2 t2 ⟨rfl, hp2_0⟩
  rcases hp2_0 with ⟨rfl, hp2_0⟩ | ⟨rfl, hp2_0⟩
  · skip
    refine w_ine (by omega) (fun h => absurd h (by omega)) (fun _ => ?_)
    refine w_goto ?_
    refine w_step rfl ?_
    refine w_push kc_m1000000001 ?_
    refine w_retI rfl ?_
    exact ⟨rfl, (by omega), (by omega)⟩
  refine w_ine (by omega) (fun _ => ?_) (fun h => absurd (by omega) h)
  refine w_step rfl ?_
  refine w_aload rfl ?_
  refine w_getR (g_0_5 _) ?_
  refine w_iload rfl ?_
  refine w_sheets (i := (k).toNat) (by omega) (by omega) ?_
  refine w_callV0I (ojH (isH_s (i := (k).toNat) (by omega)) _).choose_spec rfl (c_X2_isMissing (isH_s (i := (k).toNat) (by omega)) ok) ?_
  rintro z3 t3 ⟨rfl, hp3_0⟩
  rcases hp3_0 with ⟨rfl, hp3_0⟩ | ⟨rfl, hp3_0⟩
  · skip
    refine w_ieq (by omega) (fun _ => ?_) (fun h => absurd (by omega) h)
    refine w_step rfl ?_
    refine w_aload rfl ?_
    refine w_getR (g_0_0 _) ?_
    refine w_push kc_0 ?_
    refine w_aload rfl ?_
    refine w_getR (g_0_5 _) ?_
    refine w_iload rfl ?_
    refine w_sheets (i := (k).toNat) (by omega) (by omega) ?_
    refine w_callV2I (oj_1 _).choose_spec rfl (c_X4_unlike isT1 (isH_s (i := (k).toNat) (by omega)) ok (by omega) (by omega)) ?_
    rintro z4 t4 ⟨rfl, hp4_0, hp4_1⟩
    refine w_istore (lv' := [some (.ref 0), some (.int (jI k)), some (.int (jI w)), some (.int (jI z4)), none, none, none]) rfl ?_
    refine w_push kc_0 ?_
    refine w_istore (lv' := [some (.ref 0), some (.int (jI k)), some (.int (jI w)), some (.int (jI z4)), some (.int (jI 0)), none, none]) rfl ?_
    refine w_push kc_1 ?_
    refine w_istore (lv' := [some (.ref 0), some (.int (jI k)), some (.int (jI w)), some (.int (jI z4)), some (.int (jI 0)), some (.int (jI 1)), none]) rfl ?_
    refine w_goto ?_
    have key4 : ∀ (n4 M4 : Nat) (least : Int) (which : Int) (r : Int) (o6 : Option Int), (-2147483648 ≤ least) → (least ≤ 2147483647) → (0 ≤ which) → (which ≤ 3) → (1 ≤ r) → (r ≤ 4) → 4 - r < (n4 : Int) → 60 * n4 + (1000) ≤ M4 → Rn (bX8_seen (EX FU (d + 3))) M4 4 [some (.ref 0), some (.int (jI k)), some (.int (jI w)), some (.int (jI least)), some (.int (jI which)), some (.int (jI r)), dv o6] [] (mk t) (PI (fun z t' => t = t' ∧ (-2147483648 ≤ z) ∧ (z ≤ 2147483647))) := by
      intro n4
      induction n4 with
      | zero => intro M4 least which r o6 i4_0 i4_1 i4_2 i4_3 i4_4 i4_5 v4 f4; exfalso; omega
      | succ n4 ih4 =>
        intro M4 least which r o6 i4_0 i4_1 i4_2 i4_3 i4_4 i4_5 v4 f4
        obtain ⟨M4, rfl⟩ : ∃ m, M4 = m + 60 := ⟨M4 - 60, by omega⟩
        refine w_step rfl ?_
        refine w_iload rfl ?_
        refine w_push kc_4 ?_
        refine w_cge (by omega) (fun h5 => ?_) (fun h5 => ?_)
        · skip
          refine w_step rfl ?_
          refine w_iload rfl ?_
          refine w_ine (by omega) (fun h6 => ?_) (fun h6 => ?_)
          · skip
            refine w_step rfl ?_
            refine w_iload rfl ?_
            refine w_goto ?_
            refine w_step rfl ?_
            refine w_retI rfl ?_
            exact ⟨rfl, (by omega), (by omega)⟩
          refine w_iload rfl ?_
          refine w_goto ?_
          refine w_step rfl ?_
          refine w_retI rfl ?_
          exact ⟨rfl, (by omega), (by omega)⟩
        refine w_aload rfl ?_
        refine w_getR (g_0_0 _) ?_
        refine w_iload rfl ?_
        refine w_aload rfl ?_
        refine w_getR (g_0_5 _) ?_
        refine w_iload rfl ?_
        refine w_sheets (i := (k).toNat) (by omega) (by omega) ?_
        refine w_callV2I (oj_1 _).choose_spec rfl (c_X4_unlike isT1 (isH_s (i := (k).toNat) (by omega)) ok (by omega) (by omega)) ?_
        rintro z7 t7 ⟨rfl, hp7_0, hp7_1⟩
        refine w_istore (lv' := [some (.ref 0), some (.int (jI k)), some (.int (jI w)), some (.int (jI least)), some (.int (jI which)), some (.int (jI r)), some (.int (jI z7))]) rfl ?_
        refine w_iload rfl ?_
        refine w_iload rfl ?_
        refine w_cge (by omega) (fun h8 => ?_) (fun h8 => ?_)
        · skip
          refine w_step rfl ?_
          refine w_iinc (lv' := [some (.ref 0), some (.int (jI k)), some (.int (jI w)), some (.int (jI least)), some (.int (jI which)), some (.int (jI (r + 1))), some (.int (jI z7))]) kc_1 rfl rfl ?_
          refine w_goto ?_
          exact ih4 _ least which (r + 1) (some z7)  (by omega) (by omega) (by omega) (by omega) (by omega) (by omega) (by omega) (by omega)
        refine w_iload rfl ?_
        refine w_istore (lv' := [some (.ref 0), some (.int (jI k)), some (.int (jI w)), some (.int (jI z7)), some (.int (jI which)), some (.int (jI r)), some (.int (jI z7))]) rfl ?_
        refine w_iload rfl ?_
        refine w_istore (lv' := [some (.ref 0), some (.int (jI k)), some (.int (jI w)), some (.int (jI z7)), some (.int (jI r)), some (.int (jI r)), some (.int (jI z7))]) rfl ?_
        refine w_goto ?_
        refine w_step rfl ?_
        refine w_iinc (lv' := [some (.ref 0), some (.int (jI k)), some (.int (jI w)), some (.int (jI z7)), some (.int (jI r)), some (.int (jI (r + 1))), some (.int (jI z7))]) kc_1 rfl rfl ?_
        refine w_goto ?_
        exact ih4 _ z7 r (r + 1) (some z7)  (by omega) (by omega) (by omega) (by omega) (by omega) (by omega) (by omega) (by omega)
    exact key4 5 _ z4 0 1 none  (by omega) (by omega) (by omega) (by omega) (by omega) (by omega) (by omega) (by omega)
  refine w_ieq (by omega) (fun h => absurd h (by omega)) (fun _ => ?_)
  refine w_push kc_m1000000011 ?_
  refine w_retI rfl ?_
  exact ⟨rfl, (by omega), (by omega)⟩
set_option maxRecDepth 100000 in
set_option maxHeartbeats 4000000 in
theorem c_X8_trim {d : Nat} {t : TS} {n : Int}  (ok : OK t) (q0 : -2147483648 ≤ n) (q1 : n ≤ 2147483647) : CI (EX FU (d + 2)) 101 [.ref 0, .int (jI n)] (mk t) (fun z t' => OK t' ∧ Fr [(37, 1)] t t' ∧ (((¬ (0 ≤ n ∧ n ≤ tI t 37 1)) ∧ z = (-1000000001) ∧ t' = t) ∨ ((0 ≤ n ∧ n ≤ tI t 37 1) ∧ z = n ∧ (t' = uI t 37 1 n)))) := by
  refine CI_ent (d := d + 1) (Bk := bX8_trim) (nL := 2) rfl rfl rfl (Nat.le_of_ble_eq_true rfl) ?_
  show Rn _ 1000000 0 [some (.ref 0), some (.int (jI n))] [] _ _
  have fr : Fr [(37, 1)] t t := Fr.rf _ _
  have hn0 := (ok.f fe_1_10).1
  have hn1 := (ok.f fe_1_10).2
  refine w_step rfl ?_
  refine w_iload rfl ?_
  refine w_push kc_0 ?_
  refine w_aload rfl ?_
  refine w_getR (g_0_3 _) ?_
  refine w_getI (g_37_1 _) fe_37_1 ok (fun z1 hz1 hl1 hh1 => ?_)
  refine w_callS3I rfl (c_X8_within ok (by omega) (by omega) (by omega) (by omega) (by omega) (by omega)) ?_
  rintro z2 t2 ⟨rfl, hp2_0⟩
  rcases hp2_0 with ⟨rfl, hp2_0⟩ | ⟨rfl, hp2_0⟩
  · skip
    refine w_ine (by omega) (fun h => absurd h (by omega)) (fun _ => ?_)
    refine w_push kc_m1000000001 ?_
    refine w_retI rfl ?_
    exact ⟨ok, fr, (by first | (exact Or.inl ⟨by omega, by first | omega | (subst_vars; rfl), rfl⟩) | (exact Or.inr (⟨by omega, by first | omega | (subst_vars; rfl), by assumption⟩)))⟩
  refine w_ine (by omega) (fun _ => ?_) (fun h => absurd (by omega) h)
  refine w_step rfl ?_
  refine w_aload rfl ?_
  refine w_getR (g_0_3 _) ?_
  refine w_iload rfl ?_
  refine w_putI (p_37_1 _) fe_37_1 ok (by omega) (fun t3 ht3 ok3 => ?_)
  have fr3 := fr.uI ht3 (by simp)
  refine w_iload rfl ?_
  refine w_retI rfl ?_
  exact ⟨ok3, fr3, (by first | (exact Or.inl ⟨by omega, by first | omega | (subst_vars; rfl), rfl⟩) | (exact Or.inr (⟨by omega, by first | omega | (subst_vars; rfl), by assumption⟩)))⟩
end
