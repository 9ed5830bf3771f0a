/-! ===== days on which nothing is laid: no stones, no wind ===== -/
def ush (z : Int32) : Int32 := (z.toUInt32 >>> ((8 : Int32).toUInt32 &&& Int32.toUInt32 31)).toInt32
def znext (z : Int32) : Int32 := z * 1103515245 + 12345
theorem nI_self (z : Int32) : nI z.toBitVec.toNat = z := by
  apply Int32.toBitVec_inj.mp
  show (Int32.ofNat z.toBitVec.toNat).toBitVec = _
  rw [Int32.toBitVec_ofNat']
  exact BitVec.ofNat_toNat ..
theorem ush_nI (z : Int32) : ∃ j : Nat, j < 2 ^ 24 ∧ ush z = nI j := by
  refine ⟨z.toBitVec.toNat / 2 ^ 8, ?_, ?_⟩
  · have := z.toBitVec.isLt
    omega
  · have h := pk_ushrN (n := z.toBitVec.toNat) z.toBitVec.isLt 8 8 (by decide)
    rw [nI_self] at h
    exact h
theorem ush_rem (z : Int32) {dd : Nat} (h0 : 0 < dd) (h1 : dd < 2 ^ 31) : ∃ q : Nat, q < dd ∧ ush z - ush z / nI dd * nI dd = nI q := by
  obtain ⟨j, hj, e⟩ := ush_nI z
  refine ⟨j % dd, Nat.mod_lt _ h0, ?_⟩
  rw [e]
  exact pk_rem (by omega) h0 h1
theorem c_draw {d b : Nat} (s : ST) (hb : isT b) : EX FU (d + 1) 33 [.ref b] (mkW s) = some (some (.int (ush (znext (s.1 b 14)))), mkW (sI s b 14 (znext (s.1 b 14)))) := by
  apply ex_X4_draw
  refine rn_step rfl ?_
  refine rb_aload rfl ?_
  refine rb_aload rfl ?_
  refine rb_getf (gfT_14 hb _) ?_
  refine rb_push ?_
  refine rb_mul ?_
  refine rb_push ?_
  refine rb_add ?_
  refine rb_putI (pfT_14 hb _ _) ?_
  refine rb_aload rfl ?_
  refine rb_getf (gfT_14 hb _) ?_
  rw [sI_same]
  refine rb_push ?_
  refine rb_ushr ?_
  exact rb_ret rfl rfl
theorem c_firstEmpty0 {d b : Nat} (s : ST) (hb : isT b) (hh : s.2.1 (b + 6) = List.replicate 12 (-1)) {q : Nat} (hq : q < 4) : EX FU (d + 1) 53 [.ref b, .int (nI q)] (mkW s) = some (some (.int (nI (q * 3))), mkW s) := by
  apply ex_X4_firstEmptyIn
  refine rn_step rfl ?_
  refine rb_iload rfl ?_
  refine rb_push ?_
  refine rb_binL (z := nI (q * 3)) (pk_mul q 3) ?_
  refine rb_istore (lv' := [some (.ref b), some (.int (nI q)), some (.int (nI (q * 3))), none]) rfl ?_
  refine rb_iload rfl ?_
  refine rb_istore (lv' := [some (.ref b), some (.int (nI q)), some (.int (nI (q * 3))), some (.int (nI (q * 3)))]) rfl ?_
  refine rb_goto ?_
  refine rn_step rfl ?_
  refine rb_iload rfl ?_
  refine rb_iload rfl ?_
  refine rb_push ?_
  refine rb_binL (z := nI (q * 3 + 3)) (nI_add (q * 3) 3) ?_
  refine rb_cge (fun h => absurd h (nI_ge (by omega) (by omega))) (fun _ => ?_)
  refine rb_aload rfl ?_
  refine rb_getf (gfT_5 hb _) ?_
  refine rb_iload rfl ?_
  refine rb_iald (iaT_6 hb _) (nI_pos (by omega)) (x := -1) (by rw [hh, nI_clamp (by omega), List.getElem?_replicate, if_pos (by omega)]) ?_
  refine rb_push ?_
  refine rb_cne (fun h => absurd rfl h) (fun _ => ?_)
  refine rb_iload rfl ?_
  exact rb_ret rfl rfl
theorem c_layBest0 {d b : Nat} (s : ST) (hb : isT b) (hs : s.1 b 10 = 0) (p : Int32) : EX FU (d + 1) 54 [.ref b, .int p] (mkW s) = some (none, mkW s) := by
  apply ex_X4_layBestAt
  refine rn_step rfl ?_
  refine rb_push ?_
  refine rb_istore (lv' := [some (.ref b), some (.int p), some (.int 0), none, none, none, none, none]) rfl ?_
  refine rb_push ?_
  refine rb_istore (lv' := [some (.ref b), some (.int p), some (.int 0), some (.int (-1)), none, none, none, none]) rfl ?_
  refine rb_push ?_
  refine rb_istore (lv' := [some (.ref b), some (.int p), some (.int 0), some (.int (-1)), some (.int 0), none, none, none]) rfl ?_
  refine rb_push ?_
  refine rb_istore (lv' := [some (.ref b), some (.int p), some (.int 0), some (.int (-1)), some (.int 0), some (.int 0), none, none]) rfl ?_
  refine rb_goto ?_
  refine rn_step rfl ?_
  refine rb_iload rfl ?_
  refine rb_aload rfl ?_
  refine rb_getf (gfT_10 hb _) ?_
  rw [hs]
  refine rb_cge (fun _ => ?_) (fun h => absurd (by decide) h)
  refine rn_step rfl ?_
  refine rb_iload rfl ?_
  refine rb_push ?_
  refine rb_ceq (fun _ => ?_) (fun h => absurd rfl h)
  refine rn_step rfl ?_
  exact rb_retv rfl
/-- no stones, no wind, nothing held -/
def noS (b : Nat) (s : ST) : Prop := s.1 b 10 = 0 ∧ s.1 b 12 = 0 ∧ s.2.1 (b + 6) = List.replicate 12 (-1)
theorem c_passDay0 {d b : Nat} (s : ST) (hb : isT b) (hn : noS b s) : ∃ z, EX FU (d + 2) 52 [.ref b] (mkW s) = some (none, mkW (sI (sI s b 14 z) b 13 (s.1 b 13 + 1))) := by
  obtain ⟨h1, h2, h3⟩ := hn
  obtain ⟨q, hq, eq⟩ := ush_rem (znext (s.1 b 14)) (dd := 4) (by decide) (by decide)
  obtain ⟨q2, hq2, eq2⟩ := ush_rem (znext (znext (s.1 b 14))) (dd := 100) (by decide) (by decide)
  obtain ⟨fs, hfs⟩ := obT hb s
  refine ⟨znext (znext (s.1 b 14)), ?_⟩
  apply ex_X4_passDay
  refine rn_step rfl ?_
  refine rb_aload rfl ?_
  refine rb_aload rfl ?_
  refine rb_callV0 hfs rfl (c_draw s hb) ?_
  refine rb_push ?_
  refine rb_divL (z := nI q) (by decide) eq ?_
  obtain ⟨fs2, hfs2⟩ := obT hb (sI s b 14 (znext (s.1 b 14)))
  refine rb_callV1 hfs2 rfl (c_firstEmpty0 _ hb (by rw [sI_A]; exact h3) hq) ?_
  refine rb_istore (lv' := [some (.ref b), some (.int (nI (q * 3)))]) rfl ?_
  refine rb_iload rfl ?_
  refine rb_push ?_
  refine rb_ceq (fun h => absurd h ?_) (fun _ => ?_)
  · intro h
    have h5 := congrArg Int32.toInt h
    rw [nI_toInt (by omega)] at h5
    have h6 : (-1 : Int32).toInt = -1 := by decide
    omega
  refine rb_aload rfl ?_
  refine rb_iload rfl ?_
  refine rb_callV1v hfs2 rfl (c_layBest0 _ hb (by rw [sI_f _ _ _ _ _ _ (by decide)]; exact h1) _) ?_
  refine rb_goto ?_
  refine rn_step rfl ?_
  refine rb_aload rfl ?_
  refine rb_callV0 hfs2 rfl (c_draw _ hb) ?_
  rw [sI_same, sI_sI]
  refine rb_push ?_
  refine rb_divL (z := nI q2) (by decide) eq2 ?_
  refine rb_aload rfl ?_
  refine rb_getf (gfT_12 hb _) ?_
  rw [sI_f _ _ _ _ _ _ (by decide), h2]
  refine rb_cge (fun _ => ?_) (fun h => absurd (nI_pos' (by omega)) h)
  refine rn_step rfl ?_
  refine rb_aload rfl ?_
  refine rb_dupR ?_
  refine rb_getf (gfT_13 hb _) ?_
  rw [sI_f _ _ _ _ _ _ (by decide)]
  refine rb_push ?_
  refine rb_add ?_
  refine rb_putI (pfT_13 hb _ _) ?_
  exact rb_retv rfl
theorem sI_4 (s : ST) (b : Nat) (z dd z1 X : Int32) : sI (sI (sI (sI s b 14 z) b 13 dd) b 14 z1) b 13 X = sI (sI s b 14 z1) b 13 X := by
  rw [sI_comm (sI s b 14 z) b 13 14 dd z1 (by decide), sI_sI s b 14 z z1, sI_sI (sI s b 14 z1) b 13 dd X]
theorem set4 (N : List Int32) (z dd z1 X : Int32) : (((N.set 0 z).set 2 dd).set 0 z1).set 2 X = (N.set 0 z1).set 2 X := by
  rw [List.set_comm dd z1 (by decide : (2 : Nat) ≠ 0), List.set_set, List.set_set]
theorem noS.step {b : Nat} {s : ST} (h : noS b s) (z dd : Int32) : noS b (sI (sI s b 14 z) b 13 dd) := by
  obtain ⟨h1, h2, h3⟩ := h
  refine ⟨?_, ?_, h3⟩
  · rw [sI_f _ _ _ _ _ _ (by decide), sI_f _ _ _ _ _ _ (by decide)]; exact h1
  · rw [sI_f _ _ _ _ _ _ (by decide), sI_f _ _ _ _ _ _ (by decide)]; exact h2
theorem c_passDays0 {d b : Nat} (s : ST) (hb : isT b) (hn : noS b s) {n : Nat} (hN : n ≤ 100) : ∃ z dd, EX FU (d + 3) 51 [.ref b, .int (nI n)] (mkW s) = some (none, mkW (sI (sI s b 14 z) b 13 dd)) := by
  have key : ∀ m i, i + m = n → ∀ z dd, ∃ z' dd', ab_run (bX4_passDays (EX FU (d + 2))) (m + 2) 1 [some (.ref b), some (.int (nI n)), some (.int (nI i))] [] (mkW (sI (sI s b 14 z) b 13 dd)) = some (none, mkW (sI (sI s b 14 z') b 13 dd')) := by
    intro m
    induction m with
    | zero =>
      intro i hi z dd
      have hi2 : i = n := by omega
      subst hi2
      refine ⟨z, dd, ?_⟩
      refine rn_step rfl ?_
      refine rb_iload rfl ?_
      refine rb_iload rfl ?_
      refine rb_cge (fun _ => ?_) (fun h => absurd (Int32.le_refl _) h)
      refine rn_step rfl ?_
      exact rb_retv rfl
    | succ m ih =>
      intro i hi z dd
      obtain ⟨z1, h1⟩ := c_passDay0 (d := d) (sI (sI s b 14 z) b 13 dd) hb (hn.step z dd)
      rw [sI_4] at h1
      obtain ⟨z2, dd2, h2⟩ := ih (i + 1) (by omega) z1 ((sI (sI s b 14 z) b 13 dd).1 b 13 + 1)
      obtain ⟨fs, hfs⟩ := obT hb (sI (sI s b 14 z) b 13 dd)
      refine ⟨z2, dd2, ?_⟩
      refine rn_step rfl ?_
      refine rb_iload rfl ?_
      refine rb_iload rfl ?_
      refine rb_cge (fun h => absurd h (nI_ge (by omega) (by omega))) (fun _ => ?_)
      refine rb_aload rfl ?_
      refine rb_callV0v hfs rfl h1 ?_
      refine rb_iinc (lv' := [some (.ref b), some (.int (nI n)), some (.int (nI (i + 1)))]) rfl (by rw [nI_succ]; rfl) ?_
      refine rb_goto ?_
      exact h2
  obtain ⟨z', dd', h⟩ := key n 0 (by omega) (s.1 b 14) (s.1 b 13)
  refine ⟨z', dd', ?_⟩
  apply ex_X4_passDays
  refine rn_step rfl ?_
  refine rb_push ?_
  refine rb_istore (lv' := [some (.ref b), some (.int (nI n)), some (.int (nI 0))]) rfl ?_
  refine rb_goto ?_
  have e : sI (sI s b 14 (s.1 b 14)) b 13 (s.1 b 13) = s := by rw [sI_id, sI_id]
  rw [e] at h
  exact rn_mono h (by show n + 2 ≤ 299999; omega)
/-! the reference's -/
theorem c_drawM {d : Nat} (s : ST) {z : Int32} (h0 : (s.2.1 69)[0]? = some z) : EX FU (d + 1) 154 [.ref 68] (mkW s) = some (some (.int (ush (znext z))), mkW (sA s 69 ((s.2.1 69).set 0 (znext z)))) := by
  have hl : 0 < (s.2.1 69).length := (List.getElem?_eq_some_iff.mp h0).1
  apply ex_X9_draw
  refine rn_step rfl ?_
  refine rb_aload rfl ?_
  refine rb_getf (v := .ref 69) rfl ?_
  refine rb_push ?_
  refine rb_aload rfl ?_
  refine rb_getf (v := .ref 69) rfl ?_
  refine rb_push ?_
  refine rb_iald (xs := s.2.1 69) rfl (by decide) (x := z) h0 ?_
  refine rb_push ?_
  refine rb_mul ?_
  refine rb_push ?_
  refine rb_add ?_
  refine rb_iast (xs := s.2.1 69) rfl (by decide) hl (wa_69 _ _) ?_
  refine rb_aload rfl ?_
  refine rb_getf (v := .ref 69) rfl ?_
  refine rb_push ?_
  refine rb_iald (xs := (s.2.1 69).set 0 (znext z)) rfl (by decide) (x := znext z) (by exact List.getElem?_set_self hl) ?_
  refine rb_push ?_
  refine rb_ushr ?_
  exact rb_ret rfl rfl
theorem c_holder0 {d : Nat} (s : ST) (h1 : (s.2.1 69)[1]? = some 0) (p : Int32) : EX FU (d + 1) 149 [.ref 68, .int p] (mkW s) = some (some (.int (-1)), mkW s) := by
  apply ex_X9_holder
  refine rn_step rfl ?_
  refine rb_push ?_
  refine rb_istore (lv' := [some (.ref 68), some (.int p), some (.int (-1)), none]) rfl ?_
  refine rb_push ?_
  refine rb_istore (lv' := [some (.ref 68), some (.int p), some (.int (-1)), some (.int 0)]) rfl ?_
  refine rb_goto ?_
  refine rn_step rfl ?_
  refine rb_iload rfl ?_
  refine rb_aload rfl ?_
  refine rb_getf (v := .ref 69) rfl ?_
  refine rb_push ?_
  refine rb_iald (xs := s.2.1 69) rfl (by decide) (x := 0) h1 ?_
  refine rb_cge (fun _ => ?_) (fun h => absurd (by decide) h)
  refine rn_step rfl ?_
  refine rb_iload rfl ?_
  exact rb_ret rfl rfl
theorem c_laysIn0 {d : Nat} (s : ST) (h1 : (s.2.1 69)[1]? = some 0) {q : Nat} (hq : q < 4) : EX FU (d + 2) 158 [.ref 68, .int (nI q)] (mkW s) = some (none, mkW s) := by
  apply ex_X9_laysIn
  refine rn_step rfl ?_
  refine rb_push ?_
  refine rb_iload rfl ?_
  refine rb_binL (z := nI (3 * q)) (pk_mul 3 q) ?_
  refine rb_istore (lv' := [some (.ref 68), some (.int (nI q)), some (.int (nI (3 * q))), none, none, none, none, none, none]) rfl ?_
  refine rb_goto ?_
  refine rn_step rfl ?_
  refine rb_iload rfl ?_
  refine rb_push ?_
  refine rb_iload rfl ?_
  refine rb_binL (z := nI (3 * q)) (pk_mul 3 q) ?_
  refine rb_push ?_
  refine rb_binL (z := nI (3 * q + 3)) (nI_add (3 * q) 3) ?_
  refine rb_cge (fun h => absurd h (nI_ge (by omega) (by omega))) (fun _ => ?_)
  refine rb_aload rfl ?_
  refine rb_iload rfl ?_
  refine rb_callV1 (fs := _) rfl rfl (c_holder0 s h1 _) ?_
  refine rb_ilt (fun _ => ?_) (fun h => absurd (by decide) h)
  refine rn_step rfl ?_
  refine rb_push ?_
  refine rb_istore (lv' := [some (.ref 68), some (.int (nI q)), some (.int (nI (3 * q))), some (.int (-1)), none, none, none, none, none]) rfl ?_
  refine rb_push ?_
  refine rb_istore (lv' := [some (.ref 68), some (.int (nI q)), some (.int (nI (3 * q))), some (.int (-1)), some (.int 0), none, none, none, none]) rfl ?_
  refine rb_push ?_
  refine rb_istore (lv' := [some (.ref 68), some (.int (nI q)), some (.int (nI (3 * q))), some (.int (-1)), some (.int 0), some (.int 0), none, none, none]) rfl ?_
  refine rb_push ?_
  refine rb_istore (lv' := [some (.ref 68), some (.int (nI q)), some (.int (nI (3 * q))), some (.int (-1)), some (.int 0), some (.int 0), some (.int 0), none, none]) rfl ?_
  refine rb_goto ?_
  refine rn_step rfl ?_
  refine rb_iload rfl ?_
  refine rb_push ?_
  refine rb_aload rfl ?_
  refine rb_getf (v := .ref 69) rfl ?_
  refine rb_push ?_
  refine rb_iald (xs := s.2.1 69) rfl (by decide) (x := 0) h1 ?_
  refine rb_binL (z := 0) (by decide) ?_
  refine rb_cge (fun _ => ?_) (fun h => absurd (by decide) h)
  refine rn_step rfl ?_
  refine rb_iload rfl ?_
  refine rb_ilt (fun _ => ?_) (fun h => absurd (by decide) h)
  refine rn_step rfl ?_
  exact rb_retv rfl
theorem c_day0 {d : Nat} (s : ST) {z dd : Int32} (h0 : (s.2.1 69)[0]? = some z) (h1 : (s.2.1 69)[1]? = some 0) (h2 : (s.2.1 69)[2]? = some dd) (h3 : (s.2.1 69)[3]? = some 0) : ∃ z', EX FU (d + 3) 159 [.ref 68] (mkW s) = some (none, mkW (sA s 69 (((s.2.1 69).set 0 z').set 2 (dd + 1)))) := by
  obtain ⟨q, hq, eq⟩ := ush_rem (znext z) (dd := 4) (by decide) (by decide)
  obtain ⟨q2, hq2, eq2⟩ := ush_rem (znext (znext z)) (dd := 100) (by decide) (by decide)
  have hl : 3 < (s.2.1 69).length := (List.getElem?_eq_some_iff.mp h3).1
  refine ⟨znext (znext z), ?_⟩
  apply ex_X9_day
  refine rn_step rfl ?_
  refine rb_aload rfl ?_
  refine rb_aload rfl ?_
  refine rb_callV0 (fs := _) rfl rfl (c_drawM s h0) ?_
  refine rb_push ?_
  refine rb_divL (z := nI q) (by decide) eq ?_
  refine rb_callV1v (fs := _) rfl rfl (c_laysIn0 _ (by rw [sA_same, List.getElem?_set_ne (by decide)]; exact h1) hq) ?_
  refine rb_aload rfl ?_
  refine rb_callV0 (fs := _) rfl rfl (c_drawM _ (z := znext z) (by rw [sA_same]; exact List.getElem?_set_self (by omega))) ?_
  rw [sA_same, sA_sA, List.set_set]
  refine rb_push ?_
  refine rb_divL (z := nI q2) (by decide) eq2 ?_
  refine rb_aload rfl ?_
  refine rb_getf (v := .ref 69) rfl ?_
  refine rb_push ?_
  refine rb_iald (xs := (s.2.1 69).set 0 (znext (znext z))) rfl (by decide) (x := 0) (by show ((s.2.1 69).set 0 (znext (znext z)))[3]? = some 0; rw [List.getElem?_set_ne (by decide)]; exact h3) ?_
  refine rb_cge (fun _ => ?_) (fun h => absurd (nI_pos' (by omega)) h)
  refine rn_step rfl ?_
  refine rb_aload rfl ?_
  refine rb_getf (v := .ref 69) rfl ?_
  refine rb_push ?_
  refine rb_dup2 ?_
  refine rb_iald (xs := (s.2.1 69).set 0 (znext (znext z))) rfl (by decide) (x := dd) (by show ((s.2.1 69).set 0 (znext (znext z)))[2]? = some dd; rw [List.getElem?_set_ne (by decide)]; exact h2) ?_
  refine rb_push ?_
  refine rb_add ?_
  refine rb_iast (xs := (s.2.1 69).set 0 (znext (znext z))) rfl (by decide) (by show 2 < ((s.2.1 69).set 0 (znext (znext z))).length; rw [List.length_set]; omega) (wa_69 _ _) ?_
  rw [sA_sA]
  exact rb_retv rfl
theorem c_goesOn0 {d : Nat} (s : ST) {z dd : Int32} (h0 : (s.2.1 69)[0]? = some z) (h1 : (s.2.1 69)[1]? = some 0) (h2 : (s.2.1 69)[2]? = some dd) (h3 : (s.2.1 69)[3]? = some 0) {n : Nat} (hN : n ≤ 100) : ∃ z' dd', EX FU (d + 4) 160 [.ref 68, .int (nI n)] (mkW s) = some (none, mkW (sA s 69 (((s.2.1 69).set 0 z').set 2 dd'))) := by
  have hl : 3 < (s.2.1 69).length := (List.getElem?_eq_some_iff.mp h3).1
  have key : ∀ m i, i + m = n → ∀ z dd, ∃ z' dd', ab_run (bX9_goesOn (EX FU (d + 3))) (m + 2) 1 [some (.ref 68), some (.int (nI n)), some (.int (nI i))] [] (mkW (sA s 69 (((s.2.1 69).set 0 z).set 2 dd))) = some (none, mkW (sA s 69 (((s.2.1 69).set 0 z').set 2 dd'))) := by
    intro m
    induction m with
    | zero =>
      intro i hi z dd
      have hi2 : i = n := by omega
      subst hi2
      refine ⟨z, dd, ?_⟩
      refine rn_step rfl ?_
      refine rb_iload rfl ?_
      refine rb_iload rfl ?_
      refine rb_cge (fun _ => ?_) (fun h => absurd (Int32.le_refl _) h)
      refine rn_step rfl ?_
      exact rb_retv rfl
    | succ m ih =>
      intro i hi z dd
      obtain ⟨z1, e1⟩ := c_day0 (d := d) (sA s 69 (((s.2.1 69).set 0 z).set 2 dd)) (z := z) (dd := dd) (by rw [sA_same, List.getElem?_set_ne (by decide)]; exact List.getElem?_set_self (by omega)) (by rw [sA_same, List.getElem?_set_ne (by decide), List.getElem?_set_ne (by decide)]; exact h1) (by rw [sA_same]; exact List.getElem?_set_self (by rw [List.length_set]; omega)) (by rw [sA_same, List.getElem?_set_ne (by decide), List.getElem?_set_ne (by decide)]; exact h3)
      rw [sA_same, sA_sA, set4] at e1
      obtain ⟨z2, dd2, e2⟩ := ih (i + 1) (by omega) z1 (dd + 1)
      refine ⟨z2, dd2, ?_⟩
      refine rn_step rfl ?_
      refine rb_iload rfl ?_
      refine rb_iload rfl ?_
      refine rb_cge (fun h => absurd h (nI_ge (by omega) (by omega))) (fun _ => ?_)
      refine rb_aload rfl ?_
      refine rb_callV0v (fs := _) rfl rfl e1 ?_
      refine rb_iinc (lv' := [some (.ref 68), some (.int (nI n)), some (.int (nI (i + 1)))]) rfl (by rw [nI_succ]; rfl) ?_
      refine rb_goto ?_
      exact e2
  obtain ⟨z', dd', h⟩ := key n 0 (by omega) z dd
  refine ⟨z', dd', ?_⟩
  apply ex_X9_goesOn
  refine rn_step rfl ?_
  refine rb_push ?_
  refine rb_istore (lv' := [some (.ref 68), some (.int (nI n)), some (.int (nI 0))]) rfl ?_
  refine rb_goto ?_
  have e : ((s.2.1 69).set 0 z).set 2 dd = s.2.1 69 := by
    apply List.ext_getElem?
    intro j
    by_cases hj : j = 2
    · subst hj; rw [List.getElem?_set_self (by rw [List.length_set]; omega), h2]
    · rw [List.getElem?_set_ne (Ne.symm hj)]
      by_cases hj0 : j = 0
      · subst hj0; rw [List.getElem?_set_self (by omega), h0]
      · rw [List.getElem?_set_ne (Ne.symm hj0)]
  rw [e, sA_id] at h
  exact rn_mono h (by show n + 2 ≤ 299999; omega)
