theorem ar_eta (c i : Nat) : AR c i = ((AR c i).1, (AR c i).2) := rfl
def shF : Int → Int := fU (fun x => x.toInt16.toInt32)
def modF (x y : Int) : Int := fZ (fun x y => x - x / y * y) x y
theorem shl_r {y z : Int} (hy : 0 ≤ y ∧ y ≤ 12) (h : z = fZ (fun x y => x <<< (y &&& 31)) 1 y) : 1 ≤ z ∧ z ≤ 4096 ∧ (y ≤ 6 → z ≤ 64) ∧ (1 ≤ y → 2 ≤ z) := by
  have h6 : y = 0 ∨ y = 1 ∨ y = 2 ∨ y = 3 ∨ y = 4 ∨ y = 5 ∨ y = 6 ∨ y = 7 ∨ y = 8 ∨ y = 9 ∨ y = 10 ∨ y = 11 ∨ y = 12 := by omega
  subst h
  rcases h6 with rfl | rfl | rfl | rfl | rfl | rfl | rfl | rfl | rfl | rfl | rfl | rfl | rfl <;> decide
set_option maxRecDepth 100000 in
theorem bit_sub0 : ∀ n : Nat, n < 64 → ∀ m : Nat, m < 6 → ¬ fZ (fun x y => x &&& y) (fZ (fun x y => x >>> (y &&& 31)) (n : Int) (m : Int)) 1 = 0 → fZ (fun x y => x <<< (y &&& 31)) 1 (m : Int) ≤ (n : Int) := by decide +kernel
theorem bit_sub {s p z1 z2 z3 : Int} (hs : 0 ≤ s ∧ s ≤ 63) (hp : 0 ≤ p ∧ p ≤ 5) (h1 : z1 = fZ (fun x y => x >>> (y &&& 31)) s p) (h2 : z2 = fZ (fun x y => x &&& y) z1 1) (h3 : ¬ z2 = 0) (h4 : z3 = fZ (fun x y => x <<< (y &&& 31)) 1 p) : z3 ≤ s := by
  obtain ⟨n, rfl⟩ := Int.eq_ofNat_of_zero_le hs.1
  obtain ⟨m, rfl⟩ := Int.eq_ofNat_of_zero_le hp.1
  subst h1 h2 h4
  exact bit_sub0 n (by omega) m (by omega) h3
set_option maxRecDepth 100000 in
set_option maxHeartbeats 4000000 in
theorem c_J7_fill_53178 {d : Nat} {t : TS} {v : Int} {c gc : Nat}  (hc : ∀ u, AI c 0 gc u) (ok : OK t) (q0 : ∀ i, (AR c i).1 ≤ v ∧ v ≤ (AR c i).2) : CV (EX FU (d + 1)) 250 [.ref c, .int (jI v)] (mk t) (fun t' => OK t' ∧ Fr [(c, 100)] t t' ∧ (∀ m : Nat, m < gc → tA t' c m = v)) := by
  refine CV_ent (d := d + 0) (Bk := bJ7_fill_53178) (nL := 4) rfl rfl rfl (Nat.le_of_ble_eq_true rfl) ?_
  show Rn _ 1000000 0 [some (.ref c), some (.int (jI v)), none, none] [] _ _
  have fr : Fr [(c, 100)] t t := Fr.rf _ _
  have hg := (hc t).2.2.2
  refine w_step rfl ?_
  refine w_push kc_0 ?_
  refine w_istore (lv' := [some (.ref c), some (.int (jI v)), some (.int (jI 0)), none]) rfl ?_
  refine w_aload rfl ?_
  refine w_alen (hc _) ?_
  refine w_istore (lv' := [some (.ref c), some (.int (jI v)), some (.int (jI 0)), some (.int (jI (gc : Int)))]) rfl ?_
  refine w_goto ?_
  have key1 : ∀ (n1 M1 : Nat) (i : Int) (t1 : TS), OK t1 → Fr [(c, 100)] t t1 → (0 ≤ i) → (i ≤ (gc : Int)) → (∀ m : Nat, (m : Int) < i → tA t1 c m = v) → (gc : Int) - i < (n1 : Int) → 20 * n1 + (100) ≤ M1 → Rn (bJ7_fill_53178 (EX FU (d + 0))) M1 1 [some (.ref c), some (.int (jI v)), some (.int (jI i)), some (.int (jI (gc : Int)))] [] (mk t1) (PV (fun t' => OK t' ∧ Fr [(c, 100)] t t' ∧ (∀ m : Nat, m < gc → tA t' c m = v))) := by
    intro n1
    induction n1 with
    | zero => intro M1 i t1 ok1 fr1 i1_0 i1_1 i1_2 v1 f1; exfalso; first | omega | exact q0 _
    | succ n1 ih1 =>
      intro M1 i t1 ok1 fr1 i1_0 i1_1 i1_2 v1 f1
      obtain ⟨M1, rfl⟩ : ∃ m, M1 = m + 20 := ⟨M1 - 20, by omega⟩
      refine w_step rfl ?_
      refine w_iload rfl ?_
      refine w_iload rfl ?_
      refine w_cge (by first | omega | exact q0 _) (fun h2 => ?_) (fun h2 => ?_)
      · skip
        refine w_step rfl ?_
        refine w_retV ?_
        exact ⟨ok1, fr1, (fun m hm => i1_2 m (by omega))⟩
      refine w_aload rfl ?_
      refine w_iload rfl ?_
      refine w_iload rfl ?_
      refine w_iast (i := (i).toNat) (hc _) rfl (by first | omega | exact q0 _) (by first | omega | exact q0 _) (ar_eta _ _) ok1 (by first | omega | exact q0 _) (fun t3 ht3 ok3 => ?_)
      have fr3 := fr1.uA ht3 (by simp)
      refine w_iinc (lv' := [some (.ref c), some (.int (jI v)), some (.int (jI (i + 1))), some (.int (jI (gc : Int)))]) kc_1 rfl rfl ?_
      refine w_goto ?_
      exact ih1 _ (i + 1) t3 ok3 fr3 (by first | omega | exact q0 _) (by first | omega | exact q0 _) (by intro m hm; rw [ht3, tA_uA]; split <;> first | rfl | exact i1_2 m (by omega)) (by first | omega | exact q0 _) (by first | omega | exact q0 _)
  exact key1 (gc + 1) _ 0 t ok fr (by first | omega | exact q0 _) (by first | omega | exact q0 _) (by intro m hm; omega) (by first | omega | exact q0 _) (by first | omega | exact q0 _)
set_option maxRecDepth 100000 in
set_option maxHeartbeats 4000000 in
theorem c_X2_isMissing {d : Nat} {t : TS} {b : Nat}  (hb : isH b) (ok : OK t) : CI (EX FU (d + 1)) 21 [.ref b] (mk t) (fun z t' => t = t' ∧ ((z = 0 ∧ ¬ (tI t b 1 = -1)) ∨ (z = 1 ∧ (tI t b 1 = -1)))) := by
  refine CI_ent (d := d + 0) (Bk := bX2_isMissing) (nL := 1) rfl rfl rfl (Nat.le_of_ble_eq_true rfl) ?_
  show Rn _ 1000000 0 [some (.ref b)] [] _ _
  refine w_step rfl ?_
  refine w_aload rfl ?_
  refine w_getI (gH_1 hb _) (feH_1 hb) ok (fun z1 hz1 hl1 hh1 => ?_)
  refine w_push kc_m1 ?_
  refine w_cne (by omega) (fun h2 => ?_) (fun h2 => ?_)
  · skip
    refine w_step rfl ?_
    refine w_push kc_0 ?_
    refine w_goto ?_
    refine w_step rfl ?_
    refine w_retI rfl ?_
    exact ⟨rfl, (by omega)⟩
  refine w_push kc_1 ?_
  refine w_goto ?_
  refine w_step rfl ?_
  refine w_retI rfl ?_
  exact ⟨rfl, (by omega)⟩
set_option maxRecDepth 100000 in
set_option maxHeartbeats 4000000 in
theorem c_X2_become {d : Nat} {t : TS} {b : Nat} {s n : Int}  (hb : isH b) (ok : OK t) (q0 : -1 ≤ s) (q1 : s ≤ 1) (q2 : 0 ≤ n) (q3 : n ≤ 24) : CV (EX FU (d + 2)) 22 [.ref b, .int (jI s), .int (jI n)] (mk t) (fun t' => OK t' ∧ Fr [(b, 1), (b, 2), (b + 1, 100)] t t' ∧ (tI t' b 1 = s) ∧ (tI t' b 2 = n) ∧ (∀ i : Nat, i < 24 → tA t' (b + 1) i = 0)) := by
  refine CV_ent (d := d + 1) (Bk := bX2_become) (nL := 3) rfl rfl rfl (Nat.le_of_ble_eq_true rfl) ?_
  show Rn _ 1000000 0 [some (.ref b), some (.int (jI s)), some (.int (jI n))] [] _ _
  have fr : Fr [(b, 1), (b, 2), (b + 1, 100)] t t := Fr.rf _ _
  refine w_step rfl ?_
  refine w_aload rfl ?_
  refine w_iload rfl ?_
  refine w_putI (pH_1 hb _) (feH_1 hb) ok (by omega) (fun t1 ht1 ok1 => ?_)
  have fr1 := fr.uI ht1 (by simp)
  refine w_aload rfl ?_
  refine w_iload rfl ?_
  refine w_putI (pH_2 hb _) (feH_2 hb) ok1 (by omega) (fun t2 ht2 ok2 => ?_)
  have fr2 := fr1.uI ht2 (by simp)
  refine w_aload rfl ?_
  refine w_getR (gH_0 hb _) ?_
  refine w_push kc_0 ?_
  refine w_callS2V rfl (c_J7_fill_53178 (fun u => aiH_1 hb u) ok2 (by intro i; rw [(aeH_1 hb i)]; exact ⟨by decide, by decide⟩)) ?_
  rintro t3 ⟨ok3, fq3, hp3_0⟩
  have fr3 := fr2.then fq3 (by simp)
  have fqd := fq3
  have hfd := hp3_0
  refine w_retV ?_
  exact ⟨ok3, fr3, (by rw [fqd.1 b 1 (by simp)]; subst_vars; simp [tI_uI]), (by rw [fqd.1 b 2 (by simp)]; subst_vars; simp [tI_uI]), hfd⟩
set_option maxRecDepth 100000 in
set_option maxHeartbeats 4000000 in
theorem c_X2_becomeLike {d : Nat} {t : TS} {b : Nat} {o : Nat}  (hb : isH b) (ho : isH o) (ok : OK t) (q0 : ¬ b = o) (q1 : ¬ b + 1 = o + 1) : CV (EX FU (d + 1)) 23 [.ref b, .ref o] (mk t) (fun t' => OK t' ∧ Fr [(b, 1), (b, 2), (b + 1, 100)] t t' ∧ (tI t' b 2 = tI t o 2) ∧ (∀ i : Nat, i < 24 → tA t' (b + 1) i = tA t (o + 1) i)) := by
  refine CV_ent (d := d + 0) (Bk := bX2_becomeLike) (nL := 2) rfl rfl rfl (Nat.le_of_ble_eq_true rfl) ?_
  show Rn _ 1000000 0 [some (.ref b), some (.ref o)] [] _ _
  have fr : Fr [(b, 1), (b, 2), (b + 1, 100)] t t := Fr.rf _ _
  refine w_step rfl ?_
  refine w_aload rfl ?_
  refine w_aload rfl ?_
  refine w_getI (gH_1 ho _) (feH_1 ho) ok (fun z1 hz1 hl1 hh1 => ?_)
  refine w_putI (pH_1 hb _) (feH_1 hb) ok (by omega) (fun t2 ht2 ok2 => ?_)
  have fr2 := fr.uI ht2 (by simp)
  refine w_aload rfl ?_
  refine w_aload rfl ?_
  refine w_getI (gH_2 ho _) (feH_2 ho) ok2 (fun z3 hz3 hl3 hh3 => ?_)
  refine w_putI (pH_2 hb _) (feH_2 hb) ok2 (by omega) (fun t4 ht4 ok4 => ?_)
  have fr4 := fr2.uI ht4 (by simp)
  refine w_aload rfl ?_
  refine w_getR (gH_0 ho _) ?_
  refine w_push kc_0 ?_
  refine w_aload rfl ?_
  refine w_getR (gH_0 hb _) ?_
  refine w_push kc_0 ?_
  refine w_push kc_24 ?_
  refine w_acopy (s := 0) (d := 0) (m := 24) (aiH_1 ho _) (aiH_1 hb _) (by omega) (by omega) (by omega) (by omega) (by omega) rfl ok4 (fun i _ _ => by have hXq := ok4.a (c := (o + 1)) (i := 0 + (i - 0)) (aeH_1 ho _); rw [(aeH_1 hb _)]; exact hXq) (fun t5 ht5 ok5 => ?_)
  have fr5 := fr4.uR ht5 (by simp)
  refine w_retV ?_
  exact ⟨ok5, fr5, (by subst_vars; simp [tI_uI, tI_uR, q0, Ne.symm q0]), (by intro i hi; subst_vars; simp [tA_uR, tA_uI, hi])⟩
set_option maxRecDepth 100000 in
set_option maxHeartbeats 4000000 in
theorem c_X2_write {d : Nat} {t : TS} {b : Nat} {p v : Int}  (hb : isH b) (ok : OK t) (q0 : 0 ≤ p) (q1 : p ≤ 23) (q2 : -2147483648 ≤ v) (q3 : v ≤ 2147483647) : CI (EX FU (d + 1)) 24 [.ref b, .int (jI p), .int (jI v)] (mk t) (fun z t' => OK t' ∧ Fr [(b + 1, 100)] t t' ∧ (z = 1) ∧ (t' = uA t (b + 1) p.toNat v)) := by
  refine CI_ent (d := d + 0) (Bk := bX2_write) (nL := 3) rfl rfl rfl (Nat.le_of_ble_eq_true rfl) ?_
  show Rn _ 1000000 0 [some (.ref b), some (.int (jI p)), some (.int (jI v))] [] _ _
  have fr : Fr [(b + 1, 100)] t t := Fr.rf _ _
  refine w_step rfl ?_
  refine w_aload rfl ?_
  refine w_getR (gH_0 hb _) ?_
  refine w_iload rfl ?_
  refine w_iload rfl ?_
  refine w_iast (i := (p).toNat) (aiH_1 hb _) rfl (by omega) (by omega) (aeH_1 hb _) ok (by omega) (fun t1 ht1 ok1 => ?_)
  have fr1 := fr.uA ht1 (by simp)
  refine w_push kc_1 ?_
  refine w_retI rfl ?_
  exact ⟨ok1, fr1, (by omega), (by assumption)⟩
set_option maxRecDepth 100000 in
set_option maxHeartbeats 4000000 in
theorem c_X2_hasPlaces {d : Nat} {t : TS} {b : Nat} {p m : Int}  (hb : isH b) (ok : OK t) (q0 : -2147483648 ≤ p) (q1 : p ≤ 2147483647) (q2 : -2147483648 ≤ m) (q3 : m ≤ 2147483647) : CI (EX FU (d + 2)) 26 [.ref b, .int (jI p), .int (jI m)] (mk t) (fun z t' => t = t' ∧ ((z = 0 ∧ ¬ (0 ≤ p ∧ p ≤ tI t b 2 ∧ 0 ≤ m ∧ m ≤ tI t b 2 - p)) ∨ (z = 1 ∧ (0 ≤ p ∧ p ≤ tI t b 2 ∧ 0 ≤ m ∧ m ≤ tI t b 2 - p)))) := by
  refine CI_ent (d := d + 1) (Bk := bX2_hasPlaces) (nL := 3) rfl rfl rfl (Nat.le_of_ble_eq_true rfl) ?_
  show Rn _ 1000000 0 [some (.ref b), some (.int (jI p)), some (.int (jI m))] [] _ _
  refine w_step rfl ?_
  refine w_iload rfl ?_
  refine w_push kc_0 ?_
  refine w_aload rfl ?_
  refine w_getI (gH_2 hb _) (feH_2 hb) ok (fun z1 hz1 hl1 hh1 => ?_)
  refine w_callS3I rfl (c_X8_within ok (by omega) (by omega) (by omega) (by omega) (by omega) (by omega)) ?_
  rintro z2 t2 ⟨rfl, hp2_0⟩
  rcases hp2_0 with ⟨rfl, hp2_0⟩ | ⟨rfl, hp2_0⟩
  · skip
    refine w_ieq (by omega) (fun _ => ?_) (fun h => absurd (by omega) h)
    refine w_step rfl ?_
    refine w_push kc_0 ?_
    refine w_goto ?_
    refine w_step rfl ?_
    refine w_retI rfl ?_
    exact ⟨rfl, (by omega)⟩
  refine w_ieq (by omega) (fun h => absurd h (by omega)) (fun _ => ?_)
  refine w_iload rfl ?_
  refine w_push kc_0 ?_
  refine w_aload rfl ?_
  refine w_getI (gH_2 hb _) (feH_2 hb) ok (fun z3 hz3 hl3 hh3 => ?_)
  refine w_iload rfl ?_
  refine w_sub ?_
  refine w_callS3I rfl (c_X8_within ok (by omega) (by omega) (by omega) (by omega) (by omega) (by omega)) ?_
  rintro z4 t4 ⟨rfl, hp4_0⟩
  rcases hp4_0 with ⟨rfl, hp4_0⟩ | ⟨rfl, hp4_0⟩
  · skip
    refine w_ieq (by omega) (fun _ => ?_) (fun h => absurd (by omega) h)
    refine w_step rfl ?_
    refine w_push kc_0 ?_
    refine w_goto ?_
    refine w_step rfl ?_
    refine w_retI rfl ?_
    exact ⟨rfl, (by omega)⟩
  refine w_ieq (by omega) (fun h => absurd h (by omega)) (fun _ => ?_)
  refine w_push kc_1 ?_
  refine w_goto ?_
  refine w_step rfl ?_
  refine w_retI rfl ?_
  exact ⟨rfl, (by omega)⟩
set_option maxRecDepth 100000 in
set_option maxHeartbeats 4000000 in
theorem c_X3_takeStone {d : Nat} {t : TS} {b : Nat} {k l r : Int}  (hb : isL b) (ok : OK t) (q0 : 0 ≤ k) (q1 : k ≤ 5) (q2 : 0 ≤ l) (q3 : l ≤ 6) (q4 : 0 ≤ r) (q5 : r ≤ 6) : CV (EX FU (d + 1)) 28 [.ref b, .int (jI k), .int (jI l), .int (jI r)] (mk t) (fun t' => OK t' ∧ Fr [(b, 2), (b, 3), (b, 4)] t t' ∧ (tI t' b 2 = k) ∧ (tI t' b 3 = l) ∧ (tI t' b 4 = r)) := by
  refine CV_ent (d := d + 0) (Bk := bX3_takeStone) (nL := 4) rfl rfl rfl (Nat.le_of_ble_eq_true rfl) ?_
  show Rn _ 1000000 0 [some (.ref b), some (.int (jI k)), some (.int (jI l)), some (.int (jI r))] [] _ _
  have fr : Fr [(b, 2), (b, 3), (b, 4)] t t := Fr.rf _ _
  refine w_step rfl ?_
  refine w_aload rfl ?_
  refine w_iload rfl ?_
  refine w_putI (pL_2 hb _) (feL_2 hb) ok (by omega) (fun t1 ht1 ok1 => ?_)
  have fr1 := fr.uI ht1 (by simp)
  refine w_aload rfl ?_
  refine w_iload rfl ?_
  refine w_putI (pL_3 hb _) (feL_3 hb) ok1 (by omega) (fun t2 ht2 ok2 => ?_)
  have fr2 := fr1.uI ht2 (by simp)
  refine w_aload rfl ?_
  refine w_iload rfl ?_
  refine w_putI (pL_4 hb _) (feL_4 hb) ok2 (by omega) (fun t3 ht3 ok3 => ?_)
  have fr3 := fr2.uI ht3 (by simp)
  refine w_retV ?_
  exact ⟨ok3, fr3, (by subst_vars; simp [tI_uI]), (by subst_vars; simp [tI_uI]), (by subst_vars; simp [tI_uI])⟩
set_option maxRecDepth 100000 in
set_option maxHeartbeats 4000000 in
theorem c_X4_addText {d : Nat} {t : TS} {b : Nat} {x : Nat}  (hb : isT b) (hx : x < (tD t).length) (ok : OK t) (q0 : tI t b 11 ≤ 13) : CI (EX FU (d + 6)) 36 [.ref b, .ref (92 + 4 * x)] (mk t) (fun z t' => OK t' ∧ Fr [(b, 11), (b + 9, 101), (b + 10, 100), (b + 8, 100)] t t' ∧ (z = tI t b 11)) := by
  refine CI_ent (d := d + 5) (Bk := bX4_addText) (nL := 4) rfl rfl rfl (Nat.le_of_ble_eq_true rfl) ?_
  show Rn _ 1000000 0 [some (.ref b), some (.ref (92 + 4 * x)), none, none] [] _ _
  have fr : Fr [(b, 11), (b + 9, 101), (b + 10, 100), (b + 8, 100)] t t := Fr.rf _ _
  refine w_step rfl ?_
  refine w_aload rfl ?_
  refine w_getI (gT_11 hb _) (feT_11 hb) ok (fun z1 hz1 hl1 hh1 => ?_)
  refine w_istore (lv' := [some (.ref b), some (.ref (92 + 4 * x)), some (.int (jI z1)), none]) rfl ?_
  refine w_aload rfl ?_
  refine w_dupR ?_
  refine w_getI (gT_11 hb _) (feT_11 hb) ok (fun z2 hz2 hl2 hh2 => ?_)
  refine w_push kc_1 ?_
  refine w_add ?_
  refine w_putI (pT_11 hb _) (feT_11 hb) ok (by omega) (fun t3 ht3 ok3 => ?_)
  have fr3 := fr.uI ht3 (by simp)
  refine w_aload rfl ?_
  refine w_getR (gT_8 hb _) ?_
  refine w_iload rfl ?_
  refine w_aload rfl ?_
  refine w_aastX (i := (z1).toNat) (raT' hb _) (wtT' hb _) (by omega) (by omega) (by have hl := fr3.len; omega) ok3 (fun t4 ht4 ok4 => ?_)
  have fr4 := fr3.uT ht4 (by simp)
  refine w_aload rfl ?_
  refine w_getR (gT_9 hb _) ?_
  refine w_aload rfl ?_
  refine w_getX0 (by have hl := fr4.len; omega) ok4 (fun z5 hz5 hl5 hh5 => ?_)
  refine w_iload rfl ?_
  refine w_iast (i := (z5).toNat) (aiT_10 hb _) rfl (by omega) (by omega) (aeT_10 hb _) ok4 (by omega) (fun t6 ht6 ok6 => ?_)
  have fr6 := fr4.uA ht6 (by simp)
  refine w_aload rfl ?_
  refine w_getX0 (by have hl := fr6.len; omega) ok6 (fun z7 hz7 hl7 hh7 => ?_)
  refine w_ine (by omega) (fun h8 => ?_) (fun h8 => ?_)
  · skip
    refine w_step rfl ?_
    refine w_iload rfl ?_
    refine w_retI rfl ?_
    exact ⟨ok6, fr6, (by omega)⟩
  refine w_push kc_0 ?_
  refine w_istore (lv' := [some (.ref b), some (.ref (92 + 4 * x)), some (.int (jI z1)), some (.int (jI 0))]) rfl ?_
  refine w_goto ?_
  have key1 : ∀ (n1 M1 : Nat) (s : Int) (t9 : TS), OK t9 → Fr [(b, 11), (b + 9, 101), (b + 10, 100), (b + 8, 100)] t t9 → (0 ≤ s) → (s ≤ 12) → 12 - s < (n1 : Int) → 60 * n1 + (1000) ≤ M1 → Rn (bX4_addText (EX FU (d + 5))) M1 1 [some (.ref b), some (.ref (92 + 4 * x)), some (.int (jI z1)), some (.int (jI s))] [] (mk t9) (PI (fun z t' => OK t' ∧ Fr [(b, 11), (b + 9, 101), (b + 10, 100), (b + 8, 100)] t t' ∧ (z = tI t b 11))) := by
    intro n1
    induction n1 with
    | zero => intro M1 s t9 ok9 fr9 i1_0 i1_1 v1 f1; exfalso; omega
    | succ n1 ih1 =>
      intro M1 s t9 ok9 fr9 i1_0 i1_1 v1 f1
      obtain ⟨M1, rfl⟩ : ∃ m, M1 = m + 60 := ⟨M1 - 60, by omega⟩
      refine w_step rfl ?_
      refine w_iload rfl ?_
      refine w_aload rfl ?_
      refine w_getI (gT_10 hb _) (feT_10 hb) ok9 (fun z10 hz10 hl10 hh10 => ?_)
      refine w_cge (by omega) (fun h11 => ?_) (fun h11 => ?_)
      · skip
        refine w_step rfl ?_
        refine w_iload rfl ?_
        refine w_retI rfl ?_
        exact ⟨ok9, fr9, (by omega)⟩
      refine w_aload rfl ?_
      refine w_iload rfl ?_
      refine w_callV1V (ojT hb _).choose_spec rfl (c_X4_darken hb ok9 (by omega) (by omega)) ?_
      rintro t12 ⟨ok12, fq12⟩
      have fr12 := fr9.then fq12 (by simp)
      refine w_iinc (lv' := [some (.ref b), some (.ref (92 + 4 * x)), some (.int (jI z1)), some (.int (jI (s + 1)))]) kc_1 rfl rfl ?_
      refine w_goto ?_
      exact ih1 _ (s + 1) t12 ok12 fr12 (by omega) (by omega) (by omega) (by omega)
  exact key1 13 _ 0 t6 ok6 fr6 (by omega) (by omega) (by omega) (by omega)
set_option maxRecDepth 100000 in
set_option maxHeartbeats 4000000 in
theorem c_X4_drawStone {d : Nat} {t : TS} {b : Nat}  (hb : isT b) (ok : OK t) (q0 : tI t b 10 ≤ 11) : CV (EX FU (d + 7)) 32 [.ref b] (mk t) (fun t' => OK t' ∧ Fr [(b, 10), (b, 14), (b + 1, 100), (b + 2, 100), (b + 3, 100), (b + 4, 100), (b + 5, 100), (b + 8, 100)] t t' ∧ (tI t' b 14 = znF (znF (znF (tI t b 14)))) ∧ (tI t' b 10 = tI t b 10 + 1) ∧ (∀ i, tA t' (b + 1) i = if i = (tI t b 10).toNat then drF (znF (tI t b 14)) % 6 else tA t (b + 1) i) ∧ (∀ i, tA t' (b + 2) i = if i = (tI t b 10).toNat then drF (znF (znF (tI t b 14))) % 7 else tA t (b + 2) i) ∧ (∀ i, tA t' (b + 3) i = if i = (tI t b 10).toNat then drF (znF (znF (znF (tI t b 14)))) % 7 else tA t (b + 3) i)) := by
  refine CV_ent (d := d + 6) (Bk := bX4_drawStone) (nL := 4) rfl rfl rfl (Nat.le_of_ble_eq_true rfl) ?_
  show Rn _ 1000000 0 [some (.ref b), none, none, none] [] _ _
  have fr : Fr [(b, 10), (b, 14), (b + 1, 100), (b + 2, 100), (b + 3, 100), (b + 4, 100), (b + 5, 100), (b + 8, 100)] t t := Fr.rf _ _
  refine w_step rfl ?_
  refine w_aload rfl ?_
  refine w_callV0I (ojT hb _).choose_spec rfl (c_X4_draw hb ok) ?_
  rintro z1 t1 ⟨ok1, fq1, hp1_0, hp1_1, hp1_2, hp1_3⟩
  have fr1 := fr.then fq1 (by simp)
  have e1 : tI t1 b 14 = znF (tI t b 14) := hp1_0
  have v1 : z1 = drF (znF (tI t b 14)) := hp1_1
  have n1 : tI t1 b 10 = tI t b 10 := fq1.1 b 10 (by simp)
  have a1 : ∀ c i, tA t1 c i = tA t c i := fun c i => fq1.2.1 c (by simp) i
  refine w_push kc_6 ?_
  refine w_rem (by omega) ?_
  refine w_istore (lv' := [some (.ref b), some (.int (jI (z1 % 6))), none, none]) rfl ?_
  refine w_aload rfl ?_
  refine w_callV0I (ojT hb _).choose_spec rfl (c_X4_draw hb ok1) ?_
  rintro z2 t2 ⟨ok2, fq2, hp2_0, hp2_1, hp2_2, hp2_3⟩
  have fr2 := fr1.then fq2 (by simp)
  have v2 : z2 = drF (znF (znF (tI t b 14))) := by rw [hp2_1, e1]
  have e2 : tI t2 b 14 = znF (znF (tI t b 14)) := by rw [hp2_0, e1]
  have n2 : tI t2 b 10 = tI t b 10 := (fq2.1 b 10 (by simp)).trans n1
  have a2 : ∀ c i, tA t2 c i = tA t c i := fun c i => (fq2.2.1 c (by simp) i).trans (a1 c i)
  refine w_push kc_7 ?_
  refine w_rem (by omega) ?_
  refine w_istore (lv' := [some (.ref b), some (.int (jI (z1 % 6))), some (.int (jI (z2 % 7))), none]) rfl ?_
  refine w_aload rfl ?_
  refine w_callV0I (ojT hb _).choose_spec rfl (c_X4_draw hb ok2) ?_
  rintro z3 t3 ⟨ok3, fq3, hp3_0, hp3_1, hp3_2, hp3_3⟩
  have fr3 := fr2.then fq3 (by simp)
  have v3 : z3 = drF (znF (znF (znF (tI t b 14)))) := by rw [hp3_1, e2]
  have e3 : tI t3 b 14 = znF (znF (znF (tI t b 14))) := by rw [hp3_0, e2]
  have n3 : tI t3 b 10 = tI t b 10 := (fq3.1 b 10 (by simp)).trans n2
  have a3 : ∀ c i, tA t3 c i = tA t c i := fun c i => (fq3.2.1 c (by simp) i).trans (a2 c i)
  refine w_push kc_7 ?_
  refine w_rem (by omega) ?_
  refine w_istore (lv' := [some (.ref b), some (.int (jI (z1 % 6))), some (.int (jI (z2 % 7))), some (.int (jI (z3 % 7)))]) rfl ?_
  refine w_aload rfl ?_
  refine w_iload rfl ?_
  refine w_iload rfl ?_
  refine w_iload rfl ?_
  refine w_callV3I (ojT hb _).choose_spec rfl (c_X4_addStone hb ok3 (by omega) (by omega) (by omega) (by omega) (by omega) (by omega) (by omega)) ?_
  rintro z4 t4 ⟨ok4, fq4, hp4_0, hp4_1, hp4_2, hp4_3, hp4_4⟩
  have fr4 := fr3.then fq4 (by simp)
  have e4 := (fq4.1 b 14 (by simp)).trans e3
  have m1 := hp4_1
  have m2 := hp4_2
  have m3 := hp4_3
  have m4 := hp4_4
  refine w_popI ?_
  refine w_retV ?_
  exact ⟨ok4, fr4, e4, (by omega), (by intro i; rw [m2 i, n3, a3, v1]), (by intro i; rw [m3 i, n3, a3, v2]), (by intro i; rw [m4 i, n3, a3, v3])⟩
set_option maxRecDepth 100000 in
set_option maxHeartbeats 4000000 in
theorem c_X4_become_24_1 {d : Nat} {t : TS}  (ok : OK t) : CV (EX FU (d + 1)) 30 [.ref 24, .ref 1] (mk t) (fun t' => OK t' ∧ Fr [(24, 10), (24, 11), (24, 12), (24, 13), (24, 14), (25, 100), (26, 100), (27, 100), (28, 100), (29, 100), (30, 100), (31, 100), (32, 100), (34, 100), (33, 101)] t t' ∧ (tI t' 24 10 = tI t 1 10) ∧ (tI t' 24 11 = tI t 1 11) ∧ (tI t' 24 12 = tI t 1 12) ∧ (tI t' 24 13 = tI t 1 13) ∧ (tI t' 24 14 = tI t 1 14) ∧ (∀ i : Nat, i < 12 → tA t' 25 i = tA t 2 i) ∧ (∀ i : Nat, i < 12 → tA t' 26 i = tA t 3 i) ∧ (∀ i : Nat, i < 12 → tA t' 27 i = tA t 4 i) ∧ (∀ i : Nat, i < 12 → tA t' 28 i = tA t 5 i) ∧ (∀ i : Nat, i < 12 → tA t' 29 i = tA t 6 i) ∧ (∀ i : Nat, i < 12 → tA t' 30 i = tA t 7 i) ∧ (∀ i : Nat, i < 24 → tA t' 31 i = tA t 8 i) ∧ (∀ i : Nat, i < 96 → tA t' 32 i = tA t 9 i) ∧ (∀ i : Nat, i < 3 → tA t' 34 i = tA t 11 i) ∧ (∀ i : Nat, i < 14 → tT t' 33 i = tT t 10 i)) := by
  refine CV_ent (d := d + 0) (Bk := bX4_become) (nL := 3) rfl rfl rfl (Nat.le_of_ble_eq_true rfl) ?_
  show Rn _ 1000000 0 [some (.ref 24), some (.ref 1), none] [] _ _
  have fr : Fr [(24, 10), (24, 11), (24, 12), (24, 13), (24, 14), (25, 100), (26, 100), (27, 100), (28, 100), (29, 100), (30, 100), (31, 100), (32, 100), (34, 100), (33, 101)] t t := Fr.rf _ _
  refine w_step rfl ?_
  refine w_aload rfl ?_
  refine w_getR (g_1_0 _) ?_
  refine w_push kc_0 ?_
  refine w_aload rfl ?_
  refine w_getR (g_24_0 _) ?_
  refine w_push kc_0 ?_
  refine w_push kc_12 ?_
  refine w_acopy (s := 0) (d := 0) (m := 12) (ai_2 _) (ai_25 _) (by omega) (by omega) (by omega) (by omega) (by omega) rfl ok (fun i _ _ => by have hXq := ok.a (c := 2) (i := 0 + (i - 0)) (ae_2 _); rw [(ae_25 _)]; exact hXq) (fun t1 ht1 ok1 => ?_)
  have fr1 := fr.uR ht1 (by simp)
  refine w_aload rfl ?_
  refine w_getR (g_1_1 _) ?_
  refine w_push kc_0 ?_
  refine w_aload rfl ?_
  refine w_getR (g_24_1 _) ?_
  refine w_push kc_0 ?_
  refine w_push kc_12 ?_
  refine w_acopy (s := 0) (d := 0) (m := 12) (ai_3 _) (ai_26 _) (by omega) (by omega) (by omega) (by omega) (by omega) rfl ok1 (fun i _ _ => by have hXq := ok1.a (c := 3) (i := 0 + (i - 0)) (ae_3 _); rw [(ae_26 _)]; exact hXq) (fun t2 ht2 ok2 => ?_)
  have fr2 := fr1.uR ht2 (by simp)
  refine w_aload rfl ?_
  refine w_getR (g_1_2 _) ?_
  refine w_push kc_0 ?_
  refine w_aload rfl ?_
  refine w_getR (g_24_2 _) ?_
  refine w_push kc_0 ?_
  refine w_push kc_12 ?_
  refine w_acopy (s := 0) (d := 0) (m := 12) (ai_4 _) (ai_27 _) (by omega) (by omega) (by omega) (by omega) (by omega) rfl ok2 (fun i _ _ => by have hXq := ok2.a (c := 4) (i := 0 + (i - 0)) (ae_4 _); rw [(ae_27 _)]; exact hXq) (fun t3 ht3 ok3 => ?_)
  have fr3 := fr2.uR ht3 (by simp)
  refine w_aload rfl ?_
  refine w_getR (g_1_3 _) ?_
  refine w_push kc_0 ?_
  refine w_aload rfl ?_
  refine w_getR (g_24_3 _) ?_
  refine w_push kc_0 ?_
  refine w_push kc_12 ?_
  refine w_acopy (s := 0) (d := 0) (m := 12) (ai_5 _) (ai_28 _) (by omega) (by omega) (by omega) (by omega) (by omega) rfl ok3 (fun i _ _ => by have hXq := ok3.a (c := 5) (i := 0 + (i - 0)) (ae_5 _); rw [(ae_28 _)]; exact hXq) (fun t4 ht4 ok4 => ?_)
  have fr4 := fr3.uR ht4 (by simp)
  refine w_aload rfl ?_
  refine w_getR (g_1_4 _) ?_
  refine w_push kc_0 ?_
  refine w_aload rfl ?_
  refine w_getR (g_24_4 _) ?_
  refine w_push kc_0 ?_
  refine w_push kc_12 ?_
  refine w_acopy (s := 0) (d := 0) (m := 12) (ai_6 _) (ai_29 _) (by omega) (by omega) (by omega) (by omega) (by omega) rfl ok4 (fun i _ _ => by have hXq := ok4.a (c := 6) (i := 0 + (i - 0)) (ae_6 _); rw [(ae_29 _)]; exact hXq) (fun t5 ht5 ok5 => ?_)
  have fr5 := fr4.uR ht5 (by simp)
  refine w_aload rfl ?_
  refine w_getR (g_1_5 _) ?_
  refine w_push kc_0 ?_
  refine w_aload rfl ?_
  refine w_getR (g_24_5 _) ?_
  refine w_push kc_0 ?_
  refine w_push kc_12 ?_
  refine w_acopy (s := 0) (d := 0) (m := 12) (ai_7 _) (ai_30 _) (by omega) (by omega) (by omega) (by omega) (by omega) rfl ok5 (fun i _ _ => by have hXq := ok5.a (c := 7) (i := 0 + (i - 0)) (ae_7 _); rw [(ae_30 _)]; exact hXq) (fun t6 ht6 ok6 => ?_)
  have fr6 := fr5.uR ht6 (by simp)
  refine w_aload rfl ?_
  refine w_getR (g_1_6 _) ?_
  refine w_push kc_0 ?_
  refine w_aload rfl ?_
  refine w_getR (g_24_6 _) ?_
  refine w_push kc_0 ?_
  refine w_push kc_24 ?_
  refine w_acopy (s := 0) (d := 0) (m := 24) (ai_8 _) (ai_31 _) (by omega) (by omega) (by omega) (by omega) (by omega) rfl ok6 (fun i _ _ => by have hXq := ok6.a (c := 8) (i := 0 + (i - 0)) (ae_8 _); rw [(ae_31 _)]; exact hXq) (fun t7 ht7 ok7 => ?_)
  have fr7 := fr6.uR ht7 (by simp)
  refine w_aload rfl ?_
  refine w_getR (g_1_7 _) ?_
  refine w_push kc_0 ?_
  refine w_aload rfl ?_
  refine w_getR (g_24_7 _) ?_
  refine w_push kc_0 ?_
  refine w_push kc_96 ?_
  refine w_acopy (s := 0) (d := 0) (m := 96) (ai_9 _) (ai_32 _) (by omega) (by omega) (by omega) (by omega) (by omega) rfl ok7 (fun i _ _ => by have hXq := ok7.a (c := 9) (i := 0 + (i - 0)) (ae_9 _); rw [(ae_32 _)]; exact hXq) (fun t8 ht8 ok8 => ?_)
  have fr8 := fr7.uR ht8 (by simp)
  refine w_aload rfl ?_
  refine w_getR (g_1_9 _) ?_
  refine w_push kc_0 ?_
  refine w_aload rfl ?_
  refine w_getR (g_24_9 _) ?_
  refine w_push kc_0 ?_
  refine w_push kc_3 ?_
  refine w_acopy (s := 0) (d := 0) (m := 3) (ai_11 _) (ai_34 _) (by omega) (by omega) (by omega) (by omega) (by omega) rfl ok8 (fun i _ _ => by have hXq := ok8.a (c := 11) (i := 0 + (i - 0)) (ae_11 _); rw [(ae_34 _)]; exact hXq) (fun t9 ht9 ok9 => ?_)
  have fr9 := fr8.uR ht9 (by simp)
  refine w_push kc_0 ?_
  refine w_istore (lv' := [some (.ref 24), some (.ref 1), some (.int (jI 0))]) rfl ?_
  refine w_goto ?_
  have key1 : ∀ (n1 M1 : Nat) (i : Int) (t10 : TS), OK t10 → Fr [(24, 10), (24, 11), (24, 12), (24, 13), (24, 14), (25, 100), (26, 100), (27, 100), (28, 100), (29, 100), (30, 100), (31, 100), (32, 100), (34, 100), (33, 101)] t t10 → (0 ≤ i) → (i ≤ 14) → (∀ c k, tA t10 c k = tA t9 c k) → (∀ c k, tI t10 c k = tI t c k) → (∀ m : Nat, (m : Int) < i → tT t10 33 m = tT t 10 m) → 14 - i < (n1 : Int) → 60 * n1 + (1000) ≤ M1 → Rn (bX4_become (EX FU (d + 0))) M1 1 [some (.ref 24), some (.ref 1), some (.int (jI i))] [] (mk t10) (PV (fun t' => OK t' ∧ Fr [(24, 10), (24, 11), (24, 12), (24, 13), (24, 14), (25, 100), (26, 100), (27, 100), (28, 100), (29, 100), (30, 100), (31, 100), (32, 100), (34, 100), (33, 101)] t t' ∧ (tI t' 24 10 = tI t 1 10) ∧ (tI t' 24 11 = tI t 1 11) ∧ (tI t' 24 12 = tI t 1 12) ∧ (tI t' 24 13 = tI t 1 13) ∧ (tI t' 24 14 = tI t 1 14) ∧ (∀ i : Nat, i < 12 → tA t' 25 i = tA t 2 i) ∧ (∀ i : Nat, i < 12 → tA t' 26 i = tA t 3 i) ∧ (∀ i : Nat, i < 12 → tA t' 27 i = tA t 4 i) ∧ (∀ i : Nat, i < 12 → tA t' 28 i = tA t 5 i) ∧ (∀ i : Nat, i < 12 → tA t' 29 i = tA t 6 i) ∧ (∀ i : Nat, i < 12 → tA t' 30 i = tA t 7 i) ∧ (∀ i : Nat, i < 24 → tA t' 31 i = tA t 8 i) ∧ (∀ i : Nat, i < 96 → tA t' 32 i = tA t 9 i) ∧ (∀ i : Nat, i < 3 → tA t' 34 i = tA t 11 i) ∧ (∀ i : Nat, i < 14 → tT t' 33 i = tT t 10 i))) := by
    intro n1
    induction n1 with
    | zero => intro M1 i t10 ok10 fr10 i1_0 i1_1 i1_2 i1_3 i1_4 v1 f1; exfalso; omega
    | succ n1 ih1 =>
      intro M1 i t10 ok10 fr10 i1_0 i1_1 i1_2 i1_3 i1_4 v1 f1
      obtain ⟨M1, rfl⟩ : ∃ m, M1 = m + 60 := ⟨M1 - 60, by omega⟩
      have frs := fr10
      refine w_step rfl ?_
      refine w_iload rfl ?_
      refine w_push kc_14 ?_
      refine w_cge (by omega) (fun h11 => ?_) (fun h11 => ?_)
      · skip
        refine w_step rfl ?_
        refine w_aload rfl ?_
        refine w_aload rfl ?_
        refine w_getI (g_1_10 _) fe_1_10 ok10 (fun z12 hz12 hl12 hh12 => ?_)
        refine w_putI (p_24_10 _) fe_24_10 ok10 (by omega) (fun t13 ht13 ok13 => ?_)
        have fr13 := fr10.uI ht13 (by simp)
        refine w_aload rfl ?_
        refine w_aload rfl ?_
        refine w_getI (g_1_11 _) fe_1_11 ok13 (fun z14 hz14 hl14 hh14 => ?_)
        refine w_putI (p_24_11 _) fe_24_11 ok13 (by omega) (fun t15 ht15 ok15 => ?_)
        have fr15 := fr13.uI ht15 (by simp)
        refine w_aload rfl ?_
        refine w_aload rfl ?_
        refine w_getI (g_1_12 _) fe_1_12 ok15 (fun z16 hz16 hl16 hh16 => ?_)
        refine w_putI (p_24_12 _) fe_24_12 ok15 (by omega) (fun t17 ht17 ok17 => ?_)
        have fr17 := fr15.uI ht17 (by simp)
        refine w_aload rfl ?_
        refine w_aload rfl ?_
        refine w_getI (g_1_13 _) fe_1_13 ok17 (fun z18 hz18 hl18 hh18 => ?_)
        refine w_putI (p_24_13 _) fe_24_13 ok17 (by omega) (fun t19 ht19 ok19 => ?_)
        have fr19 := fr17.uI ht19 (by simp)
        refine w_aload rfl ?_
        refine w_aload rfl ?_
        refine w_getI (g_1_14 _) fe_1_14 ok19 (fun z20 hz20 hl20 hh20 => ?_)
        refine w_putI (p_24_14 _) fe_24_14 ok19 (by omega) (fun t21 ht21 ok21 => ?_)
        have fr21 := fr19.uI ht21 (by simp)
        refine w_retV ?_
        exact ⟨ok21, fr21, (by subst_vars; simp [tI_uI, i1_3]), (by subst_vars; simp [tI_uI, i1_3]), (by subst_vars; simp [tI_uI, i1_3]), (by subst_vars; simp [tI_uI, i1_3]), (by subst_vars; simp [tI_uI, i1_3]), (by intro i hi; subst_vars; simp only [tA_uI]; rw [i1_2]; simp [tA_uR, hi]), (by intro i hi; subst_vars; simp only [tA_uI]; rw [i1_2]; simp [tA_uR, hi]), (by intro i hi; subst_vars; simp only [tA_uI]; rw [i1_2]; simp [tA_uR, hi]), (by intro i hi; subst_vars; simp only [tA_uI]; rw [i1_2]; simp [tA_uR, hi]), (by intro i hi; subst_vars; simp only [tA_uI]; rw [i1_2]; simp [tA_uR, hi]), (by intro i hi; subst_vars; simp only [tA_uI]; rw [i1_2]; simp [tA_uR, hi]), (by intro i hi; subst_vars; simp only [tA_uI]; rw [i1_2]; simp [tA_uR, hi]), (by intro i hi; subst_vars; simp only [tA_uI]; rw [i1_2]; simp [tA_uR, hi]), (by intro i hi; subst_vars; simp only [tA_uI]; rw [i1_2]; simp [tA_uR, hi]), (by intro m hm; subst_vars; exact i1_4 m (by omega))⟩
      refine w_aload rfl ?_
      refine w_getR (g_24_8 _) ?_
      refine w_iload rfl ?_
      refine w_aload rfl ?_
      refine w_getR (g_1_8 _) ?_
      refine w_iload rfl ?_
      refine w_texts (i := (i).toNat) (raT' isT1 _) (by omega) (by omega) ok10 (fun e22 => ?_) (fun j22 hj22 e22 => ?_)
      · skip
        have eq1 := e22
        refine w_aastN (i := (i).toNat) (raT' isT24 _) (wtT' isT24 _) (by omega) (by omega) ok10 (fun t23 ht23 ok23 => ?_)
        have fr23 := fr10.uT ht23 (by simp)
        refine w_iinc (lv' := [some (.ref 24), some (.ref 1), some (.int (jI (i + 1)))]) kc_1 rfl rfl ?_
        refine w_goto ?_
        exact ih1 _ (i + 1) t23 ok23 fr23 (by omega) (by omega) (by intro c k; rw [ht23]; exact i1_2 c k) (by intro c k; rw [ht23]; exact i1_3 c k) (by intro m hm; rw [ht23, tT_uT]; split <;> first | exact i1_4 m (by omega) | (rename_i q; rw [q.2, ← frs.2.2.1 10 (by simp)]; exact eq1.symm)) (by omega) (by omega)
      have eq1 := e22
      refine w_aastX (i := (i).toNat) (raT' isT24 _) (wtT' isT24 _) (by omega) (by omega) (by have hl := fr10.len; omega) ok10 (fun t24 ht24 ok24 => ?_)
      have fr24 := fr10.uT ht24 (by simp)
      refine w_iinc (lv' := [some (.ref 24), some (.ref 1), some (.int (jI (i + 1)))]) kc_1 rfl rfl ?_
      refine w_goto ?_
      exact ih1 _ (i + 1) t24 ok24 fr24 (by omega) (by omega) (by intro c k; rw [ht24]; exact i1_2 c k) (by intro c k; rw [ht24]; exact i1_3 c k) (by intro m hm; rw [ht24, tT_uT]; split <;> first | exact i1_4 m (by omega) | (rename_i q; rw [q.2, ← frs.2.2.1 10 (by simp)]; exact eq1.symm)) (by omega) (by omega)
  exact key1 15 _ 0 t9 ok9 fr9 (by omega) (by omega) (fun _ _ => rfl) (by intro c k; subst_vars; rfl) (by intro m hm; omega) (by omega) (by omega)
set_option maxRecDepth 100000 in
set_option maxHeartbeats 4000000 in
theorem c_X4_become_24_12 {d : Nat} {t : TS}  (ok : OK t) : CV (EX FU (d + 1)) 30 [.ref 24, .ref 12] (mk t) (fun t' => OK t' ∧ Fr [(24, 10), (24, 11), (24, 12), (24, 13), (24, 14), (25, 100), (26, 100), (27, 100), (28, 100), (29, 100), (30, 100), (31, 100), (32, 100), (34, 100), (33, 101)] t t' ∧ (tI t' 24 10 = tI t 12 10) ∧ (tI t' 24 11 = tI t 12 11) ∧ (tI t' 24 12 = tI t 12 12) ∧ (tI t' 24 13 = tI t 12 13) ∧ (tI t' 24 14 = tI t 12 14) ∧ (∀ i : Nat, i < 12 → tA t' 25 i = tA t 13 i) ∧ (∀ i : Nat, i < 12 → tA t' 26 i = tA t 14 i) ∧ (∀ i : Nat, i < 12 → tA t' 27 i = tA t 15 i) ∧ (∀ i : Nat, i < 12 → tA t' 28 i = tA t 16 i) ∧ (∀ i : Nat, i < 12 → tA t' 29 i = tA t 17 i) ∧ (∀ i : Nat, i < 12 → tA t' 30 i = tA t 18 i) ∧ (∀ i : Nat, i < 24 → tA t' 31 i = tA t 19 i) ∧ (∀ i : Nat, i < 96 → tA t' 32 i = tA t 20 i) ∧ (∀ i : Nat, i < 3 → tA t' 34 i = tA t 22 i) ∧ (∀ i : Nat, i < 14 → tT t' 33 i = tT t 21 i)) := by
  refine CV_ent (d := d + 0) (Bk := bX4_become) (nL := 3) rfl rfl rfl (Nat.le_of_ble_eq_true rfl) ?_
  show Rn _ 1000000 0 [some (.ref 24), some (.ref 12), none] [] _ _
  have fr : Fr [(24, 10), (24, 11), (24, 12), (24, 13), (24, 14), (25, 100), (26, 100), (27, 100), (28, 100), (29, 100), (30, 100), (31, 100), (32, 100), (34, 100), (33, 101)] t t := Fr.rf _ _
  refine w_step rfl ?_
  refine w_aload rfl ?_
  refine w_getR (g_12_0 _) ?_
  refine w_push kc_0 ?_
  refine w_aload rfl ?_
  refine w_getR (g_24_0 _) ?_
  refine w_push kc_0 ?_
  refine w_push kc_12 ?_
  refine w_acopy (s := 0) (d := 0) (m := 12) (ai_13 _) (ai_25 _) (by omega) (by omega) (by omega) (by omega) (by omega) rfl ok (fun i _ _ => by have hXq := ok.a (c := 13) (i := 0 + (i - 0)) (ae_13 _); rw [(ae_25 _)]; exact hXq) (fun t1 ht1 ok1 => ?_)
  have fr1 := fr.uR ht1 (by simp)
  refine w_aload rfl ?_
  refine w_getR (g_12_1 _) ?_
  refine w_push kc_0 ?_
  refine w_aload rfl ?_
  refine w_getR (g_24_1 _) ?_
  refine w_push kc_0 ?_
  refine w_push kc_12 ?_
  refine w_acopy (s := 0) (d := 0) (m := 12) (ai_14 _) (ai_26 _) (by omega) (by omega) (by omega) (by omega) (by omega) rfl ok1 (fun i _ _ => by have hXq := ok1.a (c := 14) (i := 0 + (i - 0)) (ae_14 _); rw [(ae_26 _)]; exact hXq) (fun t2 ht2 ok2 => ?_)
  have fr2 := fr1.uR ht2 (by simp)
  refine w_aload rfl ?_
  refine w_getR (g_12_2 _) ?_
  refine w_push kc_0 ?_
  refine w_aload rfl ?_
  refine w_getR (g_24_2 _) ?_
  refine w_push kc_0 ?_
  refine w_push kc_12 ?_
  refine w_acopy (s := 0) (d := 0) (m := 12) (ai_15 _) (ai_27 _) (by omega) (by omega) (by omega) (by omega) (by omega) rfl ok2 (fun i _ _ => by have hXq := ok2.a (c := 15) (i := 0 + (i - 0)) (ae_15 _); rw [(ae_27 _)]; exact hXq) (fun t3 ht3 ok3 => ?_)
  have fr3 := fr2.uR ht3 (by simp)
  refine w_aload rfl ?_
  refine w_getR (g_12_3 _) ?_
  refine w_push kc_0 ?_
  refine w_aload rfl ?_
  refine w_getR (g_24_3 _) ?_
  refine w_push kc_0 ?_
  refine w_push kc_12 ?_
  refine w_acopy (s := 0) (d := 0) (m := 12) (ai_16 _) (ai_28 _) (by omega) (by omega) (by omega) (by omega) (by omega) rfl ok3 (fun i _ _ => by have hXq := ok3.a (c := 16) (i := 0 + (i - 0)) (ae_16 _); rw [(ae_28 _)]; exact hXq) (fun t4 ht4 ok4 => ?_)
  have fr4 := fr3.uR ht4 (by simp)
  refine w_aload rfl ?_
  refine w_getR (g_12_4 _) ?_
  refine w_push kc_0 ?_
  refine w_aload rfl ?_
  refine w_getR (g_24_4 _) ?_
  refine w_push kc_0 ?_
  refine w_push kc_12 ?_
  refine w_acopy (s := 0) (d := 0) (m := 12) (ai_17 _) (ai_29 _) (by omega) (by omega) (by omega) (by omega) (by omega) rfl ok4 (fun i _ _ => by have hXq := ok4.a (c := 17) (i := 0 + (i - 0)) (ae_17 _); rw [(ae_29 _)]; exact hXq) (fun t5 ht5 ok5 => ?_)
  have fr5 := fr4.uR ht5 (by simp)
  refine w_aload rfl ?_
  refine w_getR (g_12_5 _) ?_
  refine w_push kc_0 ?_
  refine w_aload rfl ?_
  refine w_getR (g_24_5 _) ?_
  refine w_push kc_0 ?_
  refine w_push kc_12 ?_
  refine w_acopy (s := 0) (d := 0) (m := 12) (ai_18 _) (ai_30 _) (by omega) (by omega) (by omega) (by omega) (by omega) rfl ok5 (fun i _ _ => by have hXq := ok5.a (c := 18) (i := 0 + (i - 0)) (ae_18 _); rw [(ae_30 _)]; exact hXq) (fun t6 ht6 ok6 => ?_)
  have fr6 := fr5.uR ht6 (by simp)
  refine w_aload rfl ?_
  refine w_getR (g_12_6 _) ?_
  refine w_push kc_0 ?_
  refine w_aload rfl ?_
  refine w_getR (g_24_6 _) ?_
  refine w_push kc_0 ?_
  refine w_push kc_24 ?_
  refine w_acopy (s := 0) (d := 0) (m := 24) (ai_19 _) (ai_31 _) (by omega) (by omega) (by omega) (by omega) (by omega) rfl ok6 (fun i _ _ => by have hXq := ok6.a (c := 19) (i := 0 + (i - 0)) (ae_19 _); rw [(ae_31 _)]; exact hXq) (fun t7 ht7 ok7 => ?_)
  have fr7 := fr6.uR ht7 (by simp)
  refine w_aload rfl ?_
  refine w_getR (g_12_7 _) ?_
  refine w_push kc_0 ?_
  refine w_aload rfl ?_
  refine w_getR (g_24_7 _) ?_
  refine w_push kc_0 ?_
  refine w_push kc_96 ?_
  refine w_acopy (s := 0) (d := 0) (m := 96) (ai_20 _) (ai_32 _) (by omega) (by omega) (by omega) (by omega) (by omega) rfl ok7 (fun i _ _ => by have hXq := ok7.a (c := 20) (i := 0 + (i - 0)) (ae_20 _); rw [(ae_32 _)]; exact hXq) (fun t8 ht8 ok8 => ?_)
  have fr8 := fr7.uR ht8 (by simp)
  refine w_aload rfl ?_
  refine w_getR (g_12_9 _) ?_
  refine w_push kc_0 ?_
  refine w_aload rfl ?_
  refine w_getR (g_24_9 _) ?_
  refine w_push kc_0 ?_
  refine w_push kc_3 ?_
  refine w_acopy (s := 0) (d := 0) (m := 3) (ai_22 _) (ai_34 _) (by omega) (by omega) (by omega) (by omega) (by omega) rfl ok8 (fun i _ _ => by have hXq := ok8.a (c := 22) (i := 0 + (i - 0)) (ae_22 _); rw [(ae_34 _)]; exact hXq) (fun t9 ht9 ok9 => ?_)
  have fr9 := fr8.uR ht9 (by simp)
  refine w_push kc_0 ?_
  refine w_istore (lv' := [some (.ref 24), some (.ref 12), some (.int (jI 0))]) rfl ?_
  refine w_goto ?_
  have key1 : ∀ (n1 M1 : Nat) (i : Int) (t10 : TS), OK t10 → Fr [(24, 10), (24, 11), (24, 12), (24, 13), (24, 14), (25, 100), (26, 100), (27, 100), (28, 100), (29, 100), (30, 100), (31, 100), (32, 100), (34, 100), (33, 101)] t t10 → (0 ≤ i) → (i ≤ 14) → (∀ c k, tA t10 c k = tA t9 c k) → (∀ c k, tI t10 c k = tI t c k) → (∀ m : Nat, (m : Int) < i → tT t10 33 m = tT t 21 m) → 14 - i < (n1 : Int) → 60 * n1 + (1000) ≤ M1 → Rn (bX4_become (EX FU (d + 0))) M1 1 [some (.ref 24), some (.ref 12), some (.int (jI i))] [] (mk t10) (PV (fun t' => OK t' ∧ Fr [(24, 10), (24, 11), (24, 12), (24, 13), (24, 14), (25, 100), (26, 100), (27, 100), (28, 100), (29, 100), (30, 100), (31, 100), (32, 100), (34, 100), (33, 101)] t t' ∧ (tI t' 24 10 = tI t 12 10) ∧ (tI t' 24 11 = tI t 12 11) ∧ (tI t' 24 12 = tI t 12 12) ∧ (tI t' 24 13 = tI t 12 13) ∧ (tI t' 24 14 = tI t 12 14) ∧ (∀ i : Nat, i < 12 → tA t' 25 i = tA t 13 i) ∧ (∀ i : Nat, i < 12 → tA t' 26 i = tA t 14 i) ∧ (∀ i : Nat, i < 12 → tA t' 27 i = tA t 15 i) ∧ (∀ i : Nat, i < 12 → tA t' 28 i = tA t 16 i) ∧ (∀ i : Nat, i < 12 → tA t' 29 i = tA t 17 i) ∧ (∀ i : Nat, i < 12 → tA t' 30 i = tA t 18 i) ∧ (∀ i : Nat, i < 24 → tA t' 31 i = tA t 19 i) ∧ (∀ i : Nat, i < 96 → tA t' 32 i = tA t 20 i) ∧ (∀ i : Nat, i < 3 → tA t' 34 i = tA t 22 i) ∧ (∀ i : Nat, i < 14 → tT t' 33 i = tT t 21 i))) := by
    intro n1
    induction n1 with
    | zero => intro M1 i t10 ok10 fr10 i1_0 i1_1 i1_2 i1_3 i1_4 v1 f1; exfalso; omega
    | succ n1 ih1 =>
      intro M1 i t10 ok10 fr10 i1_0 i1_1 i1_2 i1_3 i1_4 v1 f1
      obtain ⟨M1, rfl⟩ : ∃ m, M1 = m + 60 := ⟨M1 - 60, by omega⟩
      have frs := fr10
      refine w_step rfl ?_
      refine w_iload rfl ?_
      refine w_push kc_14 ?_
      refine w_cge (by omega) (fun h11 => ?_) (fun h11 => ?_)
      · skip
        refine w_step rfl ?_
        refine w_aload rfl ?_
        refine w_aload rfl ?_
        refine w_getI (g_12_10 _) fe_12_10 ok10 (fun z12 hz12 hl12 hh12 => ?_)
        refine w_putI (p_24_10 _) fe_24_10 ok10 (by omega) (fun t13 ht13 ok13 => ?_)
        have fr13 := fr10.uI ht13 (by simp)
        refine w_aload rfl ?_
        refine w_aload rfl ?_
        refine w_getI (g_12_11 _) fe_12_11 ok13 (fun z14 hz14 hl14 hh14 => ?_)
        refine w_putI (p_24_11 _) fe_24_11 ok13 (by omega) (fun t15 ht15 ok15 => ?_)
        have fr15 := fr13.uI ht15 (by simp)
        refine w_aload rfl ?_
        refine w_aload rfl ?_
        refine w_getI (g_12_12 _) fe_12_12 ok15 (fun z16 hz16 hl16 hh16 => ?_)
        refine w_putI (p_24_12 _) fe_24_12 ok15 (by omega) (fun t17 ht17 ok17 => ?_)
        have fr17 := fr15.uI ht17 (by simp)
        refine w_aload rfl ?_
        refine w_aload rfl ?_
        refine w_getI (g_12_13 _) fe_12_13 ok17 (fun z18 hz18 hl18 hh18 => ?_)
        refine w_putI (p_24_13 _) fe_24_13 ok17 (by omega) (fun t19 ht19 ok19 => ?_)
        have fr19 := fr17.uI ht19 (by simp)
        refine w_aload rfl ?_
        refine w_aload rfl ?_
        refine w_getI (g_12_14 _) fe_12_14 ok19 (fun z20 hz20 hl20 hh20 => ?_)
        refine w_putI (p_24_14 _) fe_24_14 ok19 (by omega) (fun t21 ht21 ok21 => ?_)
        have fr21 := fr19.uI ht21 (by simp)
        refine w_retV ?_
        exact ⟨ok21, fr21, (by subst_vars; simp [tI_uI, i1_3]), (by subst_vars; simp [tI_uI, i1_3]), (by subst_vars; simp [tI_uI, i1_3]), (by subst_vars; simp [tI_uI, i1_3]), (by subst_vars; simp [tI_uI, i1_3]), (by intro i hi; subst_vars; simp only [tA_uI]; rw [i1_2]; simp [tA_uR, hi]), (by intro i hi; subst_vars; simp only [tA_uI]; rw [i1_2]; simp [tA_uR, hi]), (by intro i hi; subst_vars; simp only [tA_uI]; rw [i1_2]; simp [tA_uR, hi]), (by intro i hi; subst_vars; simp only [tA_uI]; rw [i1_2]; simp [tA_uR, hi]), (by intro i hi; subst_vars; simp only [tA_uI]; rw [i1_2]; simp [tA_uR, hi]), (by intro i hi; subst_vars; simp only [tA_uI]; rw [i1_2]; simp [tA_uR, hi]), (by intro i hi; subst_vars; simp only [tA_uI]; rw [i1_2]; simp [tA_uR, hi]), (by intro i hi; subst_vars; simp only [tA_uI]; rw [i1_2]; simp [tA_uR, hi]), (by intro i hi; subst_vars; simp only [tA_uI]; rw [i1_2]; simp [tA_uR, hi]), (by intro m hm; subst_vars; exact i1_4 m (by omega))⟩
      refine w_aload rfl ?_
      refine w_getR (g_24_8 _) ?_
      refine w_iload rfl ?_
      refine w_aload rfl ?_
      refine w_getR (g_12_8 _) ?_
      refine w_iload rfl ?_
      refine w_texts (i := (i).toNat) (raT' isT12 _) (by omega) (by omega) ok10 (fun e22 => ?_) (fun j22 hj22 e22 => ?_)
      · skip
        have eq1 := e22
        refine w_aastN (i := (i).toNat) (raT' isT24 _) (wtT' isT24 _) (by omega) (by omega) ok10 (fun t23 ht23 ok23 => ?_)
        have fr23 := fr10.uT ht23 (by simp)
        refine w_iinc (lv' := [some (.ref 24), some (.ref 12), some (.int (jI (i + 1)))]) kc_1 rfl rfl ?_
        refine w_goto ?_
        exact ih1 _ (i + 1) t23 ok23 fr23 (by omega) (by omega) (by intro c k; rw [ht23]; exact i1_2 c k) (by intro c k; rw [ht23]; exact i1_3 c k) (by intro m hm; rw [ht23, tT_uT]; split <;> first | exact i1_4 m (by omega) | (rename_i q; rw [q.2, ← frs.2.2.1 21 (by simp)]; exact eq1.symm)) (by omega) (by omega)
      have eq1 := e22
      refine w_aastX (i := (i).toNat) (raT' isT24 _) (wtT' isT24 _) (by omega) (by omega) (by have hl := fr10.len; omega) ok10 (fun t24 ht24 ok24 => ?_)
      have fr24 := fr10.uT ht24 (by simp)
      refine w_iinc (lv' := [some (.ref 24), some (.ref 12), some (.int (jI (i + 1)))]) kc_1 rfl rfl ?_
      refine w_goto ?_
      exact ih1 _ (i + 1) t24 ok24 fr24 (by omega) (by omega) (by intro c k; rw [ht24]; exact i1_2 c k) (by intro c k; rw [ht24]; exact i1_3 c k) (by intro m hm; rw [ht24, tT_uT]; split <;> first | exact i1_4 m (by omega) | (rename_i q; rw [q.2, ← frs.2.2.1 21 (by simp)]; exact eq1.symm)) (by omega) (by omega)
  exact key1 15 _ 0 t9 ok9 fr9 (by omega) (by omega) (fun _ _ => rfl) (by intro c k; subst_vars; rfl) (by intro m hm; omega) (by omega) (by omega)
set_option maxRecDepth 100000 in
set_option maxHeartbeats 4000000 in
theorem c_X4_become_12_1 {d : Nat} {t : TS}  (ok : OK t) : CV (EX FU (d + 1)) 30 [.ref 12, .ref 1] (mk t) (fun t' => OK t' ∧ Fr [(12, 10), (12, 11), (12, 12), (12, 13), (12, 14), (13, 100), (14, 100), (15, 100), (16, 100), (17, 100), (18, 100), (19, 100), (20, 100), (22, 100), (21, 101)] t t' ∧ (tI t' 12 10 = tI t 1 10) ∧ (tI t' 12 11 = tI t 1 11) ∧ (tI t' 12 12 = tI t 1 12) ∧ (tI t' 12 13 = tI t 1 13) ∧ (tI t' 12 14 = tI t 1 14) ∧ (∀ i : Nat, i < 12 → tA t' 13 i = tA t 2 i) ∧ (∀ i : Nat, i < 12 → tA t' 14 i = tA t 3 i) ∧ (∀ i : Nat, i < 12 → tA t' 15 i = tA t 4 i) ∧ (∀ i : Nat, i < 12 → tA t' 16 i = tA t 5 i) ∧ (∀ i : Nat, i < 12 → tA t' 17 i = tA t 6 i) ∧ (∀ i : Nat, i < 12 → tA t' 18 i = tA t 7 i) ∧ (∀ i : Nat, i < 24 → tA t' 19 i = tA t 8 i) ∧ (∀ i : Nat, i < 96 → tA t' 20 i = tA t 9 i) ∧ (∀ i : Nat, i < 3 → tA t' 22 i = tA t 11 i) ∧ (∀ i : Nat, i < 14 → tT t' 21 i = tT t 10 i)) := by
  refine CV_ent (d := d + 0) (Bk := bX4_become) (nL := 3) rfl rfl rfl (Nat.le_of_ble_eq_true rfl) ?_
  show Rn _ 1000000 0 [some (.ref 12), some (.ref 1), none] [] _ _
  have fr : Fr [(12, 10), (12, 11), (12, 12), (12, 13), (12, 14), (13, 100), (14, 100), (15, 100), (16, 100), (17, 100), (18, 100), (19, 100), (20, 100), (22, 100), (21, 101)] t t := Fr.rf _ _
  refine w_step rfl ?_
  refine w_aload rfl ?_
  refine w_getR (g_1_0 _) ?_
  refine w_push kc_0 ?_
  refine w_aload rfl ?_
  refine w_getR (g_12_0 _) ?_
  refine w_push kc_0 ?_
  refine w_push kc_12 ?_
  refine w_acopy (s := 0) (d := 0) (m := 12) (ai_2 _) (ai_13 _) (by omega) (by omega) (by omega) (by omega) (by omega) rfl ok (fun i _ _ => by have hXq := ok.a (c := 2) (i := 0 + (i - 0)) (ae_2 _); rw [(ae_13 _)]; exact hXq) (fun t1 ht1 ok1 => ?_)
  have fr1 := fr.uR ht1 (by simp)
  refine w_aload rfl ?_
  refine w_getR (g_1_1 _) ?_
  refine w_push kc_0 ?_
  refine w_aload rfl ?_
  refine w_getR (g_12_1 _) ?_
  refine w_push kc_0 ?_
  refine w_push kc_12 ?_
  refine w_acopy (s := 0) (d := 0) (m := 12) (ai_3 _) (ai_14 _) (by omega) (by omega) (by omega) (by omega) (by omega) rfl ok1 (fun i _ _ => by have hXq := ok1.a (c := 3) (i := 0 + (i - 0)) (ae_3 _); rw [(ae_14 _)]; exact hXq) (fun t2 ht2 ok2 => ?_)
  have fr2 := fr1.uR ht2 (by simp)
  refine w_aload rfl ?_
  refine w_getR (g_1_2 _) ?_
  refine w_push kc_0 ?_
  refine w_aload rfl ?_
  refine w_getR (g_12_2 _) ?_
  refine w_push kc_0 ?_
  refine w_push kc_12 ?_
  refine w_acopy (s := 0) (d := 0) (m := 12) (ai_4 _) (ai_15 _) (by omega) (by omega) (by omega) (by omega) (by omega) rfl ok2 (fun i _ _ => by have hXq := ok2.a (c := 4) (i := 0 + (i - 0)) (ae_4 _); rw [(ae_15 _)]; exact hXq) (fun t3 ht3 ok3 => ?_)
  have fr3 := fr2.uR ht3 (by simp)
  refine w_aload rfl ?_
  refine w_getR (g_1_3 _) ?_
  refine w_push kc_0 ?_
  refine w_aload rfl ?_
  refine w_getR (g_12_3 _) ?_
  refine w_push kc_0 ?_
  refine w_push kc_12 ?_
  refine w_acopy (s := 0) (d := 0) (m := 12) (ai_5 _) (ai_16 _) (by omega) (by omega) (by omega) (by omega) (by omega) rfl ok3 (fun i _ _ => by have hXq := ok3.a (c := 5) (i := 0 + (i - 0)) (ae_5 _); rw [(ae_16 _)]; exact hXq) (fun t4 ht4 ok4 => ?_)
  have fr4 := fr3.uR ht4 (by simp)
  refine w_aload rfl ?_
  refine w_getR (g_1_4 _) ?_
  refine w_push kc_0 ?_
  refine w_aload rfl ?_
  refine w_getR (g_12_4 _) ?_
  refine w_push kc_0 ?_
  refine w_push kc_12 ?_
  refine w_acopy (s := 0) (d := 0) (m := 12) (ai_6 _) (ai_17 _) (by omega) (by omega) (by omega) (by omega) (by omega) rfl ok4 (fun i _ _ => by have hXq := ok4.a (c := 6) (i := 0 + (i - 0)) (ae_6 _); rw [(ae_17 _)]; exact hXq) (fun t5 ht5 ok5 => ?_)
  have fr5 := fr4.uR ht5 (by simp)
  refine w_aload rfl ?_
  refine w_getR (g_1_5 _) ?_
  refine w_push kc_0 ?_
  refine w_aload rfl ?_
  refine w_getR (g_12_5 _) ?_
  refine w_push kc_0 ?_
  refine w_push kc_12 ?_
  refine w_acopy (s := 0) (d := 0) (m := 12) (ai_7 _) (ai_18 _) (by omega) (by omega) (by omega) (by omega) (by omega) rfl ok5 (fun i _ _ => by have hXq := ok5.a (c := 7) (i := 0 + (i - 0)) (ae_7 _); rw [(ae_18 _)]; exact hXq) (fun t6 ht6 ok6 => ?_)
  have fr6 := fr5.uR ht6 (by simp)
  refine w_aload rfl ?_
  refine w_getR (g_1_6 _) ?_
  refine w_push kc_0 ?_
  refine w_aload rfl ?_
  refine w_getR (g_12_6 _) ?_
  refine w_push kc_0 ?_
  refine w_push kc_24 ?_
  refine w_acopy (s := 0) (d := 0) (m := 24) (ai_8 _) (ai_19 _) (by omega) (by omega) (by omega) (by omega) (by omega) rfl ok6 (fun i _ _ => by have hXq := ok6.a (c := 8) (i := 0 + (i - 0)) (ae_8 _); rw [(ae_19 _)]; exact hXq) (fun t7 ht7 ok7 => ?_)
  have fr7 := fr6.uR ht7 (by simp)
  refine w_aload rfl ?_
  refine w_getR (g_1_7 _) ?_
  refine w_push kc_0 ?_
  refine w_aload rfl ?_
  refine w_getR (g_12_7 _) ?_
  refine w_push kc_0 ?_
  refine w_push kc_96 ?_
  refine w_acopy (s := 0) (d := 0) (m := 96) (ai_9 _) (ai_20 _) (by omega) (by omega) (by omega) (by omega) (by omega) rfl ok7 (fun i _ _ => by have hXq := ok7.a (c := 9) (i := 0 + (i - 0)) (ae_9 _); rw [(ae_20 _)]; exact hXq) (fun t8 ht8 ok8 => ?_)
  have fr8 := fr7.uR ht8 (by simp)
  refine w_aload rfl ?_
  refine w_getR (g_1_9 _) ?_
  refine w_push kc_0 ?_
  refine w_aload rfl ?_
  refine w_getR (g_12_9 _) ?_
  refine w_push kc_0 ?_
  refine w_push kc_3 ?_
  refine w_acopy (s := 0) (d := 0) (m := 3) (ai_11 _) (ai_22 _) (by omega) (by omega) (by omega) (by omega) (by omega) rfl ok8 (fun i _ _ => by have hXq := ok8.a (c := 11) (i := 0 + (i - 0)) (ae_11 _); rw [(ae_22 _)]; exact hXq) (fun t9 ht9 ok9 => ?_)
  have fr9 := fr8.uR ht9 (by simp)
  refine w_push kc_0 ?_
  refine w_istore (lv' := [some (.ref 12), some (.ref 1), some (.int (jI 0))]) rfl ?_
  refine w_goto ?_
  have key1 : ∀ (n1 M1 : Nat) (i : Int) (t10 : TS), OK t10 → Fr [(12, 10), (12, 11), (12, 12), (12, 13), (12, 14), (13, 100), (14, 100), (15, 100), (16, 100), (17, 100), (18, 100), (19, 100), (20, 100), (22, 100), (21, 101)] t t10 → (0 ≤ i) → (i ≤ 14) → (∀ c k, tA t10 c k = tA t9 c k) → (∀ c k, tI t10 c k = tI t c k) → (∀ m : Nat, (m : Int) < i → tT t10 21 m = tT t 10 m) → 14 - i < (n1 : Int) → 60 * n1 + (1000) ≤ M1 → Rn (bX4_become (EX FU (d + 0))) M1 1 [some (.ref 12), some (.ref 1), some (.int (jI i))] [] (mk t10) (PV (fun t' => OK t' ∧ Fr [(12, 10), (12, 11), (12, 12), (12, 13), (12, 14), (13, 100), (14, 100), (15, 100), (16, 100), (17, 100), (18, 100), (19, 100), (20, 100), (22, 100), (21, 101)] t t' ∧ (tI t' 12 10 = tI t 1 10) ∧ (tI t' 12 11 = tI t 1 11) ∧ (tI t' 12 12 = tI t 1 12) ∧ (tI t' 12 13 = tI t 1 13) ∧ (tI t' 12 14 = tI t 1 14) ∧ (∀ i : Nat, i < 12 → tA t' 13 i = tA t 2 i) ∧ (∀ i : Nat, i < 12 → tA t' 14 i = tA t 3 i) ∧ (∀ i : Nat, i < 12 → tA t' 15 i = tA t 4 i) ∧ (∀ i : Nat, i < 12 → tA t' 16 i = tA t 5 i) ∧ (∀ i : Nat, i < 12 → tA t' 17 i = tA t 6 i) ∧ (∀ i : Nat, i < 12 → tA t' 18 i = tA t 7 i) ∧ (∀ i : Nat, i < 24 → tA t' 19 i = tA t 8 i) ∧ (∀ i : Nat, i < 96 → tA t' 20 i = tA t 9 i) ∧ (∀ i : Nat, i < 3 → tA t' 22 i = tA t 11 i) ∧ (∀ i : Nat, i < 14 → tT t' 21 i = tT t 10 i))) := by
    intro n1
    induction n1 with
    | zero => intro M1 i t10 ok10 fr10 i1_0 i1_1 i1_2 i1_3 i1_4 v1 f1; exfalso; omega
    | succ n1 ih1 =>
      intro M1 i t10 ok10 fr10 i1_0 i1_1 i1_2 i1_3 i1_4 v1 f1
      obtain ⟨M1, rfl⟩ : ∃ m, M1 = m + 60 := ⟨M1 - 60, by omega⟩
      have frs := fr10
      refine w_step rfl ?_
      refine w_iload rfl ?_
      refine w_push kc_14 ?_
      refine w_cge (by omega) (fun h11 => ?_) (fun h11 => ?_)
      · skip
        refine w_step rfl ?_
        refine w_aload rfl ?_
        refine w_aload rfl ?_
        refine w_getI (g_1_10 _) fe_1_10 ok10 (fun z12 hz12 hl12 hh12 => ?_)
        refine w_putI (p_12_10 _) fe_12_10 ok10 (by omega) (fun t13 ht13 ok13 => ?_)
        have fr13 := fr10.uI ht13 (by simp)
        refine w_aload rfl ?_
        refine w_aload rfl ?_
        refine w_getI (g_1_11 _) fe_1_11 ok13 (fun z14 hz14 hl14 hh14 => ?_)
        refine w_putI (p_12_11 _) fe_12_11 ok13 (by omega) (fun t15 ht15 ok15 => ?_)
        have fr15 := fr13.uI ht15 (by simp)
        refine w_aload rfl ?_
        refine w_aload rfl ?_
        refine w_getI (g_1_12 _) fe_1_12 ok15 (fun z16 hz16 hl16 hh16 => ?_)
        refine w_putI (p_12_12 _) fe_12_12 ok15 (by omega) (fun t17 ht17 ok17 => ?_)
        have fr17 := fr15.uI ht17 (by simp)
        refine w_aload rfl ?_
        refine w_aload rfl ?_
        refine w_getI (g_1_13 _) fe_1_13 ok17 (fun z18 hz18 hl18 hh18 => ?_)
        refine w_putI (p_12_13 _) fe_12_13 ok17 (by omega) (fun t19 ht19 ok19 => ?_)
        have fr19 := fr17.uI ht19 (by simp)
        refine w_aload rfl ?_
        refine w_aload rfl ?_
        refine w_getI (g_1_14 _) fe_1_14 ok19 (fun z20 hz20 hl20 hh20 => ?_)
        refine w_putI (p_12_14 _) fe_12_14 ok19 (by omega) (fun t21 ht21 ok21 => ?_)
        have fr21 := fr19.uI ht21 (by simp)
        refine w_retV ?_
        exact ⟨ok21, fr21, (by subst_vars; simp [tI_uI, i1_3]), (by subst_vars; simp [tI_uI, i1_3]), (by subst_vars; simp [tI_uI, i1_3]), (by subst_vars; simp [tI_uI, i1_3]), (by subst_vars; simp [tI_uI, i1_3]), (by intro i hi; subst_vars; simp only [tA_uI]; rw [i1_2]; simp [tA_uR, hi]), (by intro i hi; subst_vars; simp only [tA_uI]; rw [i1_2]; simp [tA_uR, hi]), (by intro i hi; subst_vars; simp only [tA_uI]; rw [i1_2]; simp [tA_uR, hi]), (by intro i hi; subst_vars; simp only [tA_uI]; rw [i1_2]; simp [tA_uR, hi]), (by intro i hi; subst_vars; simp only [tA_uI]; rw [i1_2]; simp [tA_uR, hi]), (by intro i hi; subst_vars; simp only [tA_uI]; rw [i1_2]; simp [tA_uR, hi]), (by intro i hi; subst_vars; simp only [tA_uI]; rw [i1_2]; simp [tA_uR, hi]), (by intro i hi; subst_vars; simp only [tA_uI]; rw [i1_2]; simp [tA_uR, hi]), (by intro i hi; subst_vars; simp only [tA_uI]; rw [i1_2]; simp [tA_uR, hi]), (by intro m hm; subst_vars; exact i1_4 m (by omega))⟩
      refine w_aload rfl ?_
      refine w_getR (g_12_8 _) ?_
      refine w_iload rfl ?_
      refine w_aload rfl ?_
      refine w_getR (g_1_8 _) ?_
      refine w_iload rfl ?_
      refine w_texts (i := (i).toNat) (raT' isT1 _) (by omega) (by omega) ok10 (fun e22 => ?_) (fun j22 hj22 e22 => ?_)
      · skip
        have eq1 := e22
        refine w_aastN (i := (i).toNat) (raT' isT12 _) (wtT' isT12 _) (by omega) (by omega) ok10 (fun t23 ht23 ok23 => ?_)
        have fr23 := fr10.uT ht23 (by simp)
        refine w_iinc (lv' := [some (.ref 12), some (.ref 1), some (.int (jI (i + 1)))]) kc_1 rfl rfl ?_
        refine w_goto ?_
        exact ih1 _ (i + 1) t23 ok23 fr23 (by omega) (by omega) (by intro c k; rw [ht23]; exact i1_2 c k) (by intro c k; rw [ht23]; exact i1_3 c k) (by intro m hm; rw [ht23, tT_uT]; split <;> first | exact i1_4 m (by omega) | (rename_i q; rw [q.2, ← frs.2.2.1 10 (by simp)]; exact eq1.symm)) (by omega) (by omega)
      have eq1 := e22
      refine w_aastX (i := (i).toNat) (raT' isT12 _) (wtT' isT12 _) (by omega) (by omega) (by have hl := fr10.len; omega) ok10 (fun t24 ht24 ok24 => ?_)
      have fr24 := fr10.uT ht24 (by simp)
      refine w_iinc (lv' := [some (.ref 12), some (.ref 1), some (.int (jI (i + 1)))]) kc_1 rfl rfl ?_
      refine w_goto ?_
      exact ih1 _ (i + 1) t24 ok24 fr24 (by omega) (by omega) (by intro c k; rw [ht24]; exact i1_2 c k) (by intro c k; rw [ht24]; exact i1_3 c k) (by intro m hm; rw [ht24, tT_uT]; split <;> first | exact i1_4 m (by omega) | (rename_i q; rw [q.2, ← frs.2.2.1 10 (by simp)]; exact eq1.symm)) (by omega) (by omega)
  exact key1 15 _ 0 t9 ok9 fr9 (by omega) (by omega) (fun _ _ => rfl) (by intro c k; subst_vars; rfl) (by intro m hm; omega) (by omega) (by omega)
set_option maxRecDepth 100000 in
set_option maxHeartbeats 4000000 in
theorem c_X4_become_1_12 {d : Nat} {t : TS}  (ok : OK t) : CV (EX FU (d + 1)) 30 [.ref 1, .ref 12] (mk t) (fun t' => OK t' ∧ Fr [(1, 10), (1, 11), (1, 12), (1, 13), (1, 14), (2, 100), (3, 100), (4, 100), (5, 100), (6, 100), (7, 100), (8, 100), (9, 100), (11, 100), (10, 101)] t t' ∧ (tI t' 1 10 = tI t 12 10) ∧ (tI t' 1 11 = tI t 12 11) ∧ (tI t' 1 12 = tI t 12 12) ∧ (tI t' 1 13 = tI t 12 13) ∧ (tI t' 1 14 = tI t 12 14) ∧ (∀ i : Nat, i < 12 → tA t' 2 i = tA t 13 i) ∧ (∀ i : Nat, i < 12 → tA t' 3 i = tA t 14 i) ∧ (∀ i : Nat, i < 12 → tA t' 4 i = tA t 15 i) ∧ (∀ i : Nat, i < 12 → tA t' 5 i = tA t 16 i) ∧ (∀ i : Nat, i < 12 → tA t' 6 i = tA t 17 i) ∧ (∀ i : Nat, i < 12 → tA t' 7 i = tA t 18 i) ∧ (∀ i : Nat, i < 24 → tA t' 8 i = tA t 19 i) ∧ (∀ i : Nat, i < 96 → tA t' 9 i = tA t 20 i) ∧ (∀ i : Nat, i < 3 → tA t' 11 i = tA t 22 i) ∧ (∀ i : Nat, i < 14 → tT t' 10 i = tT t 21 i)) := by
  refine CV_ent (d := d + 0) (Bk := bX4_become) (nL := 3) rfl rfl rfl (Nat.le_of_ble_eq_true rfl) ?_
  show Rn _ 1000000 0 [some (.ref 1), some (.ref 12), none] [] _ _
  have fr : Fr [(1, 10), (1, 11), (1, 12), (1, 13), (1, 14), (2, 100), (3, 100), (4, 100), (5, 100), (6, 100), (7, 100), (8, 100), (9, 100), (11, 100), (10, 101)] t t := Fr.rf _ _
  refine w_step rfl ?_
  refine w_aload rfl ?_
  refine w_getR (g_12_0 _) ?_
  refine w_push kc_0 ?_
  refine w_aload rfl ?_
  refine w_getR (g_1_0 _) ?_
  refine w_push kc_0 ?_
  refine w_push kc_12 ?_
  refine w_acopy (s := 0) (d := 0) (m := 12) (ai_13 _) (ai_2 _) (by omega) (by omega) (by omega) (by omega) (by omega) rfl ok (fun i _ _ => by have hXq := ok.a (c := 13) (i := 0 + (i - 0)) (ae_13 _); rw [(ae_2 _)]; exact hXq) (fun t1 ht1 ok1 => ?_)
  have fr1 := fr.uR ht1 (by simp)
  refine w_aload rfl ?_
  refine w_getR (g_12_1 _) ?_
  refine w_push kc_0 ?_
  refine w_aload rfl ?_
  refine w_getR (g_1_1 _) ?_
  refine w_push kc_0 ?_
  refine w_push kc_12 ?_
  refine w_acopy (s := 0) (d := 0) (m := 12) (ai_14 _) (ai_3 _) (by omega) (by omega) (by omega) (by omega) (by omega) rfl ok1 (fun i _ _ => by have hXq := ok1.a (c := 14) (i := 0 + (i - 0)) (ae_14 _); rw [(ae_3 _)]; exact hXq) (fun t2 ht2 ok2 => ?_)
  have fr2 := fr1.uR ht2 (by simp)
  refine w_aload rfl ?_
  refine w_getR (g_12_2 _) ?_
  refine w_push kc_0 ?_
  refine w_aload rfl ?_
  refine w_getR (g_1_2 _) ?_
  refine w_push kc_0 ?_
  refine w_push kc_12 ?_
  refine w_acopy (s := 0) (d := 0) (m := 12) (ai_15 _) (ai_4 _) (by omega) (by omega) (by omega) (by omega) (by omega) rfl ok2 (fun i _ _ => by have hXq := ok2.a (c := 15) (i := 0 + (i - 0)) (ae_15 _); rw [(ae_4 _)]; exact hXq) (fun t3 ht3 ok3 => ?_)
  have fr3 := fr2.uR ht3 (by simp)
  refine w_aload rfl ?_
  refine w_getR (g_12_3 _) ?_
  refine w_push kc_0 ?_
  refine w_aload rfl ?_
  refine w_getR (g_1_3 _) ?_
  refine w_push kc_0 ?_
  refine w_push kc_12 ?_
  refine w_acopy (s := 0) (d := 0) (m := 12) (ai_16 _) (ai_5 _) (by omega) (by omega) (by omega) (by omega) (by omega) rfl ok3 (fun i _ _ => by have hXq := ok3.a (c := 16) (i := 0 + (i - 0)) (ae_16 _); rw [(ae_5 _)]; exact hXq) (fun t4 ht4 ok4 => ?_)
  have fr4 := fr3.uR ht4 (by simp)
  refine w_aload rfl ?_
  refine w_getR (g_12_4 _) ?_
  refine w_push kc_0 ?_
  refine w_aload rfl ?_
  refine w_getR (g_1_4 _) ?_
  refine w_push kc_0 ?_
  refine w_push kc_12 ?_
  refine w_acopy (s := 0) (d := 0) (m := 12) (ai_17 _) (ai_6 _) (by omega) (by omega) (by omega) (by omega) (by omega) rfl ok4 (fun i _ _ => by have hXq := ok4.a (c := 17) (i := 0 + (i - 0)) (ae_17 _); rw [(ae_6 _)]; exact hXq) (fun t5 ht5 ok5 => ?_)
  have fr5 := fr4.uR ht5 (by simp)
  refine w_aload rfl ?_
  refine w_getR (g_12_5 _) ?_
  refine w_push kc_0 ?_
  refine w_aload rfl ?_
  refine w_getR (g_1_5 _) ?_
  refine w_push kc_0 ?_
  refine w_push kc_12 ?_
  refine w_acopy (s := 0) (d := 0) (m := 12) (ai_18 _) (ai_7 _) (by omega) (by omega) (by omega) (by omega) (by omega) rfl ok5 (fun i _ _ => by have hXq := ok5.a (c := 18) (i := 0 + (i - 0)) (ae_18 _); rw [(ae_7 _)]; exact hXq) (fun t6 ht6 ok6 => ?_)
  have fr6 := fr5.uR ht6 (by simp)
  refine w_aload rfl ?_
  refine w_getR (g_12_6 _) ?_
  refine w_push kc_0 ?_
  refine w_aload rfl ?_
  refine w_getR (g_1_6 _) ?_
  refine w_push kc_0 ?_
  refine w_push kc_24 ?_
  refine w_acopy (s := 0) (d := 0) (m := 24) (ai_19 _) (ai_8 _) (by omega) (by omega) (by omega) (by omega) (by omega) rfl ok6 (fun i _ _ => by have hXq := ok6.a (c := 19) (i := 0 + (i - 0)) (ae_19 _); rw [(ae_8 _)]; exact hXq) (fun t7 ht7 ok7 => ?_)
  have fr7 := fr6.uR ht7 (by simp)
  refine w_aload rfl ?_
  refine w_getR (g_12_7 _) ?_
  refine w_push kc_0 ?_
  refine w_aload rfl ?_
  refine w_getR (g_1_7 _) ?_
  refine w_push kc_0 ?_
  refine w_push kc_96 ?_
  refine w_acopy (s := 0) (d := 0) (m := 96) (ai_20 _) (ai_9 _) (by omega) (by omega) (by omega) (by omega) (by omega) rfl ok7 (fun i _ _ => by have hXq := ok7.a (c := 20) (i := 0 + (i - 0)) (ae_20 _); rw [(ae_9 _)]; exact hXq) (fun t8 ht8 ok8 => ?_)
  have fr8 := fr7.uR ht8 (by simp)
  refine w_aload rfl ?_
  refine w_getR (g_12_9 _) ?_
  refine w_push kc_0 ?_
  refine w_aload rfl ?_
  refine w_getR (g_1_9 _) ?_
  refine w_push kc_0 ?_
  refine w_push kc_3 ?_
  refine w_acopy (s := 0) (d := 0) (m := 3) (ai_22 _) (ai_11 _) (by omega) (by omega) (by omega) (by omega) (by omega) rfl ok8 (fun i _ _ => by have hXq := ok8.a (c := 22) (i := 0 + (i - 0)) (ae_22 _); rw [(ae_11 _)]; exact hXq) (fun t9 ht9 ok9 => ?_)
  have fr9 := fr8.uR ht9 (by simp)
  refine w_push kc_0 ?_
  refine w_istore (lv' := [some (.ref 1), some (.ref 12), some (.int (jI 0))]) rfl ?_
  refine w_goto ?_
  have key1 : ∀ (n1 M1 : Nat) (i : Int) (t10 : TS), OK t10 → Fr [(1, 10), (1, 11), (1, 12), (1, 13), (1, 14), (2, 100), (3, 100), (4, 100), (5, 100), (6, 100), (7, 100), (8, 100), (9, 100), (11, 100), (10, 101)] t t10 → (0 ≤ i) → (i ≤ 14) → (∀ c k, tA t10 c k = tA t9 c k) → (∀ c k, tI t10 c k = tI t c k) → (∀ m : Nat, (m : Int) < i → tT t10 10 m = tT t 21 m) → 14 - i < (n1 : Int) → 60 * n1 + (1000) ≤ M1 → Rn (bX4_become (EX FU (d + 0))) M1 1 [some (.ref 1), some (.ref 12), some (.int (jI i))] [] (mk t10) (PV (fun t' => OK t' ∧ Fr [(1, 10), (1, 11), (1, 12), (1, 13), (1, 14), (2, 100), (3, 100), (4, 100), (5, 100), (6, 100), (7, 100), (8, 100), (9, 100), (11, 100), (10, 101)] t t' ∧ (tI t' 1 10 = tI t 12 10) ∧ (tI t' 1 11 = tI t 12 11) ∧ (tI t' 1 12 = tI t 12 12) ∧ (tI t' 1 13 = tI t 12 13) ∧ (tI t' 1 14 = tI t 12 14) ∧ (∀ i : Nat, i < 12 → tA t' 2 i = tA t 13 i) ∧ (∀ i : Nat, i < 12 → tA t' 3 i = tA t 14 i) ∧ (∀ i : Nat, i < 12 → tA t' 4 i = tA t 15 i) ∧ (∀ i : Nat, i < 12 → tA t' 5 i = tA t 16 i) ∧ (∀ i : Nat, i < 12 → tA t' 6 i = tA t 17 i) ∧ (∀ i : Nat, i < 12 → tA t' 7 i = tA t 18 i) ∧ (∀ i : Nat, i < 24 → tA t' 8 i = tA t 19 i) ∧ (∀ i : Nat, i < 96 → tA t' 9 i = tA t 20 i) ∧ (∀ i : Nat, i < 3 → tA t' 11 i = tA t 22 i) ∧ (∀ i : Nat, i < 14 → tT t' 10 i = tT t 21 i))) := by
    intro n1
    induction n1 with
    | zero => intro M1 i t10 ok10 fr10 i1_0 i1_1 i1_2 i1_3 i1_4 v1 f1; exfalso; omega
    | succ n1 ih1 =>
      intro M1 i t10 ok10 fr10 i1_0 i1_1 i1_2 i1_3 i1_4 v1 f1
      obtain ⟨M1, rfl⟩ : ∃ m, M1 = m + 60 := ⟨M1 - 60, by omega⟩
      have frs := fr10
      refine w_step rfl ?_
      refine w_iload rfl ?_
      refine w_push kc_14 ?_
      refine w_cge (by omega) (fun h11 => ?_) (fun h11 => ?_)
      · skip
        refine w_step rfl ?_
        refine w_aload rfl ?_
        refine w_aload rfl ?_
        refine w_getI (g_12_10 _) fe_12_10 ok10 (fun z12 hz12 hl12 hh12 => ?_)
        refine w_putI (p_1_10 _) fe_1_10 ok10 (by omega) (fun t13 ht13 ok13 => ?_)
        have fr13 := fr10.uI ht13 (by simp)
        refine w_aload rfl ?_
        refine w_aload rfl ?_
        refine w_getI (g_12_11 _) fe_12_11 ok13 (fun z14 hz14 hl14 hh14 => ?_)
        refine w_putI (p_1_11 _) fe_1_11 ok13 (by omega) (fun t15 ht15 ok15 => ?_)
        have fr15 := fr13.uI ht15 (by simp)
        refine w_aload rfl ?_
        refine w_aload rfl ?_
        refine w_getI (g_12_12 _) fe_12_12 ok15 (fun z16 hz16 hl16 hh16 => ?_)
        refine w_putI (p_1_12 _) fe_1_12 ok15 (by omega) (fun t17 ht17 ok17 => ?_)
        have fr17 := fr15.uI ht17 (by simp)
        refine w_aload rfl ?_
        refine w_aload rfl ?_
        refine w_getI (g_12_13 _) fe_12_13 ok17 (fun z18 hz18 hl18 hh18 => ?_)
        refine w_putI (p_1_13 _) fe_1_13 ok17 (by omega) (fun t19 ht19 ok19 => ?_)
        have fr19 := fr17.uI ht19 (by simp)
        refine w_aload rfl ?_
        refine w_aload rfl ?_
        refine w_getI (g_12_14 _) fe_12_14 ok19 (fun z20 hz20 hl20 hh20 => ?_)
        refine w_putI (p_1_14 _) fe_1_14 ok19 (by omega) (fun t21 ht21 ok21 => ?_)
        have fr21 := fr19.uI ht21 (by simp)
        refine w_retV ?_
        exact ⟨ok21, fr21, (by subst_vars; simp [tI_uI, i1_3]), (by subst_vars; simp [tI_uI, i1_3]), (by subst_vars; simp [tI_uI, i1_3]), (by subst_vars; simp [tI_uI, i1_3]), (by subst_vars; simp [tI_uI, i1_3]), (by intro i hi; subst_vars; simp only [tA_uI]; rw [i1_2]; simp [tA_uR, hi]), (by intro i hi; subst_vars; simp only [tA_uI]; rw [i1_2]; simp [tA_uR, hi]), (by intro i hi; subst_vars; simp only [tA_uI]; rw [i1_2]; simp [tA_uR, hi]), (by intro i hi; subst_vars; simp only [tA_uI]; rw [i1_2]; simp [tA_uR, hi]), (by intro i hi; subst_vars; simp only [tA_uI]; rw [i1_2]; simp [tA_uR, hi]), (by intro i hi; subst_vars; simp only [tA_uI]; rw [i1_2]; simp [tA_uR, hi]), (by intro i hi; subst_vars; simp only [tA_uI]; rw [i1_2]; simp [tA_uR, hi]), (by intro i hi; subst_vars; simp only [tA_uI]; rw [i1_2]; simp [tA_uR, hi]), (by intro i hi; subst_vars; simp only [tA_uI]; rw [i1_2]; simp [tA_uR, hi]), (by intro m hm; subst_vars; exact i1_4 m (by omega))⟩
      refine w_aload rfl ?_
      refine w_getR (g_1_8 _) ?_
      refine w_iload rfl ?_
      refine w_aload rfl ?_
      refine w_getR (g_12_8 _) ?_
      refine w_iload rfl ?_
      refine w_texts (i := (i).toNat) (raT' isT12 _) (by omega) (by omega) ok10 (fun e22 => ?_) (fun j22 hj22 e22 => ?_)
      · skip
        have eq1 := e22
        refine w_aastN (i := (i).toNat) (raT' isT1 _) (wtT' isT1 _) (by omega) (by omega) ok10 (fun t23 ht23 ok23 => ?_)
        have fr23 := fr10.uT ht23 (by simp)
        refine w_iinc (lv' := [some (.ref 1), some (.ref 12), some (.int (jI (i + 1)))]) kc_1 rfl rfl ?_
        refine w_goto ?_
        exact ih1 _ (i + 1) t23 ok23 fr23 (by omega) (by omega) (by intro c k; rw [ht23]; exact i1_2 c k) (by intro c k; rw [ht23]; exact i1_3 c k) (by intro m hm; rw [ht23, tT_uT]; split <;> first | exact i1_4 m (by omega) | (rename_i q; rw [q.2, ← frs.2.2.1 21 (by simp)]; exact eq1.symm)) (by omega) (by omega)
      have eq1 := e22
      refine w_aastX (i := (i).toNat) (raT' isT1 _) (wtT' isT1 _) (by omega) (by omega) (by have hl := fr10.len; omega) ok10 (fun t24 ht24 ok24 => ?_)
      have fr24 := fr10.uT ht24 (by simp)
      refine w_iinc (lv' := [some (.ref 1), some (.ref 12), some (.int (jI (i + 1)))]) kc_1 rfl rfl ?_
      refine w_goto ?_
      exact ih1 _ (i + 1) t24 ok24 fr24 (by omega) (by omega) (by intro c k; rw [ht24]; exact i1_2 c k) (by intro c k; rw [ht24]; exact i1_3 c k) (by intro m hm; rw [ht24, tT_uT]; split <;> first | exact i1_4 m (by omega) | (rename_i q; rw [q.2, ← frs.2.2.1 21 (by simp)]; exact eq1.symm)) (by omega) (by omega)
  exact key1 15 _ 0 t9 ok9 fr9 (by omega) (by omega) (fun _ _ => rfl) (by intro c k; subst_vars; rfl) (by intro m hm; omega) (by omega) (by omega)
