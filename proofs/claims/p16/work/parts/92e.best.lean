set_option maxRecDepth 100000 in
set_option maxHeartbeats 4000000 in
theorem e_X9_bits {d : Nat} {t : TS} {x : Int}  (ok : OK t) (q0 : 0 ≤ x) (q1 : x ≤ 4095) : CI (EX FU (d + 1)) 167 [.int (jI x)] (mk t) (fun z t' => t = t' ∧ (z = (bcN x.toNat 12 : Int)) ∧ (0 ≤ z) ∧ (z ≤ 12)) := by
  refine CI_ent (d := d + 0) (Bk := bX9_bits) (nL := 3) rfl rfl rfl (Nat.le_of_ble_eq_true rfl) ?_
  show Rn _ 1000000 0 [some (.int (jI x)), none, none] [] _ _
  refine w_step rfl ?_
  refine w_push kc_0 ?_
  refine w_istore (lv' := [some (.int (jI x)), some (.int (jI 0)), none]) rfl ?_
  refine w_push kc_0 ?_
  refine w_istore (lv' := [some (.int (jI x)), some (.int (jI 0)), some (.int (jI 0))]) rfl ?_
  refine w_goto ?_
  have key1 : ∀ (n1 M1 : Nat) (n : Int) (k : Int), (0 ≤ k) → (k ≤ 12) → (n = (bcN x.toNat k.toNat : Int)) → (0 ≤ n) → (n ≤ k) → 12 - k < (n1 : Int) → 60 * n1 + (1000) ≤ M1 → Rn (bX9_bits (EX FU (d + 0))) M1 1 [some (.int (jI x)), some (.int (jI n)), some (.int (jI k))] [] (mk t) (PI (fun z t' => t = t' ∧ (z = (bcN x.toNat 12 : Int)) ∧ (0 ≤ z) ∧ (z ≤ 12))) := by
    intro n1
    induction n1 with
    | zero => intro M1 n k i1_0 i1_1 i1_2 i1_3 i1_4 v1 f1; exfalso; omega
    | succ n1 ih1 =>
      intro M1 n k i1_0 i1_1 i1_2 i1_3 i1_4 v1 f1
      obtain ⟨M1, rfl⟩ : ∃ m, M1 = m + 60 := ⟨M1 - 60, by omega⟩
      refine w_step rfl ?_
      refine w_iload rfl ?_
      refine w_push kc_12 ?_
      refine w_cge (by omega) (fun h1 => ?_) (fun h1 => ?_)
      · skip
        refine w_step rfl ?_
        refine w_iload rfl ?_
        refine w_retI rfl ?_
        exact ⟨rfl, (by rw [i1_2, show k.toNat = 12 by omega]), (by omega), (by omega)⟩
      refine w_iload rfl ?_
      refine w_iload rfl ?_
      refine w_iload rfl ?_
      refine w_bin (fun z2 hz2 hl2 hh2 => ?_)
      have hb1 := hz2
      refine w_push kc_1 ?_
      refine w_bin (fun z3 hz3 hl3 hh3 => ?_)
      have hu3 := ah_and1 hz3
      have hb2 := hz3
      have hbt := bt_i q0 (by omega) hb1 hb2
      have hbc := bc_i q0 (by omega) i1_2 hb1 hb2
      refine w_add ?_
      refine w_istore (lv' := [some (.int (jI x)), some (.int (jI (n + z3))), some (.int (jI k))]) rfl ?_
      refine w_iinc (lv' := [some (.int (jI x)), some (.int (jI (n + z3))), some (.int (jI (k + 1)))]) kc_1 rfl rfl ?_
      refine w_goto ?_
      exact ih1 _ (n + z3) (k + 1)  (by omega) (by omega) hbc (by omega) (by omega) (by omega) (by omega)
  exact key1 13 _ 0 0  (by omega) (by omega) rfl (by omega) (by omega) (by omega) (by omega)
set_option maxRecDepth 100000 in
set_option maxHeartbeats 4000000 in
theorem e_X9_layable {d : Nat} {t : TS} {m : Int}  (ok : OK t) (q0 : -2147483648 ≤ m) (q1 : m ≤ 2147483647) : CI (EX FU (d + 2)) 168 [.ref 68, .int (jI m)] (mk t) (fun z t' => t = t' ∧ (LMk t m z) ∧ (0 ≤ z) ∧ (z ≤ 4095)) := by
  refine CI_ent (d := d + 1) (Bk := bX9_layable) (nL := 4) rfl rfl rfl (Nat.le_of_ble_eq_true rfl) ?_
  show Rn _ 1000000 0 [some (.ref 68), some (.int (jI m)), none, none] [] _ _
  have hn0 := (ok.a (ax_69 nr_1)).1
  have hn1 := (ok.a (ax_69 nr_1)).2
  refine w_step rfl ?_
  refine w_push kc_0 ?_
  refine w_istore (lv' := [some (.ref 68), some (.int (jI m)), some (.int (jI 0)), none]) rfl ?_
  refine w_push kc_0 ?_
  refine w_istore (lv' := [some (.ref 68), some (.int (jI m)), some (.int (jI 0)), some (.int (jI 0))]) rfl ?_
  refine w_goto ?_
  have key1 : ∀ (n1 M1 : Nat) (x : Int) (s : Int), (0 ≤ s) → (s ≤ 12) → (s ≤ tA t 69 1) → (LMs t m x s) → (0 ≤ x) → (x ≤ 4095) → 12 - s < (n1 : Int) → 60 * n1 + (1000) ≤ M1 → Rn (bX9_layable (EX FU (d + 1))) M1 1 [some (.ref 68), some (.int (jI m)), some (.int (jI x)), some (.int (jI s))] [] (mk t) (PI (fun z t' => t = t' ∧ (LMk t m z) ∧ (0 ≤ z) ∧ (z ≤ 4095))) := by
    intro n1
    induction n1 with
    | zero => intro M1 x s i1_0 i1_1 i1_2 i1_3 i1_4 i1_5 v1 f1; exfalso; omega
    | succ n1 ih1 =>
      intro M1 x s i1_0 i1_1 i1_2 i1_3 i1_4 i1_5 v1 f1
      obtain ⟨M1, rfl⟩ : ∃ m, M1 = m + 60 := ⟨M1 - 60, by omega⟩
      refine w_step rfl ?_
      refine w_iload rfl ?_
      refine w_aload rfl ?_
      refine w_getR (g_68_0 _) ?_
      refine w_push kc_1 ?_
      refine w_iald (i := 1) (ai_69 _) (by omega) (by omega) (ax_69 nr_1) ok (fun z1 hz1 hl1 hh1 => ?_)
      refine w_cge (by omega) (fun h2 => ?_) (fun h2 => ?_)
      · skip
        refine w_step rfl ?_
        refine w_iload rfl ?_
        refine w_retI rfl ?_
        exact ⟨rfl, (lm_e i1_3 (by omega)), (by omega), (by omega)⟩
      refine w_iload rfl ?_
      refine w_aload rfl ?_
      refine w_iload rfl ?_
      refine w_push kc_3 ?_
      refine w_callV2I (oj_68 _).choose_spec rfl (c_X9_of ok (by omega) (by omega) (by omega) (by omega)) ?_
      rintro z3 t3 ⟨rfl, hp3_0, hp3_1, hp3_2⟩
      have hr3 := of_r3 (s := s) ok (by omega)
      have hpa : z3 = tA t 69 (32 + 5 * s.toNat) := by rw [hp3_0]; congr 1; omega
      refine w_push kc_12 ?_
      refine w_ceq (by omega) (fun h4 => ?_) (fun h4 => ?_)
      · skip
        refine w_step rfl ?_
        refine w_push kc_1 ?_
        refine w_iload rfl ?_
        refine w_bin (fun z5 hz5 hl5 hh5 => ?_)
        have hsh := hz5
        refine w_goto ?_
        refine w_step rfl ?_
        refine w_bin (fun z6 hz6 hl6 hh6 => ?_)
        have hor := hz6
        refine w_istore (lv' := [some (.ref 68), some (.int (jI m)), some (.int (jI z6)), some (.int (jI s))]) rfl ?_
        refine w_iinc (lv' := [some (.ref 68), some (.int (jI m)), some (.int (jI z6)), some (.int (jI (s + 1)))]) kc_1 rfl rfl ?_
        refine w_goto ?_
        have hLM := lm_s i1_3 (by omega) (by unfold LRm; first | exact Or.inl ⟨hsh, by omega⟩ | exact Or.inr ⟨rfl, by omega⟩ | omega) hor
        have hLM1 := hLM.1
        have hLM2 := hLM.2.1
        exact ih1 _ z6 (s + 1)  (by omega) (by omega) (by omega) hLM (by omega) (by omega) (by omega) (by omega)
      refine w_aload rfl ?_
      refine w_iload rfl ?_
      refine w_push kc_3 ?_
      refine w_callV2I (oj_68 _).choose_spec rfl (c_X9_of ok (by omega) (by omega) (by omega) (by omega)) ?_
      rintro z7 t7 ⟨rfl, hp7_0, hp7_1, hp7_2⟩
      have hr7 := of_r3 (s := s) ok (by omega)
      have hpb : z7 = tA t 69 (32 + 5 * s.toNat) := by rw [hp7_0]; congr 1; omega
      refine w_iload rfl ?_
      refine w_cge (by omega) (fun h8 => ?_) (fun h8 => ?_)
      · skip
        refine w_step rfl ?_
        refine w_push kc_0 ?_
        refine w_goto ?_
        refine w_step rfl ?_
        refine w_bin (fun z9 hz9 hl9 hh9 => ?_)
        have hor := hz9
        refine w_istore (lv' := [some (.ref 68), some (.int (jI m)), some (.int (jI z9)), some (.int (jI s))]) rfl ?_
        refine w_iinc (lv' := [some (.ref 68), some (.int (jI m)), some (.int (jI z9)), some (.int (jI (s + 1)))]) kc_1 rfl rfl ?_
        refine w_goto ?_
        have hLM := lm_s i1_3 (by omega) (by unfold LRm; first | exact Or.inl ⟨hsh, by omega⟩ | exact Or.inr ⟨rfl, by omega⟩ | omega) hor
        have hLM1 := hLM.1
        have hLM2 := hLM.2.1
        exact ih1 _ z9 (s + 1)  (by omega) (by omega) (by omega) hLM (by omega) (by omega) (by omega) (by omega)
      refine w_goto ?_
      refine w_step rfl ?_
      refine w_push kc_1 ?_
      refine w_iload rfl ?_
      refine w_bin (fun z10 hz10 hl10 hh10 => ?_)
      have hsh := hz10
      refine w_goto ?_
      refine w_step rfl ?_
      refine w_bin (fun z11 hz11 hl11 hh11 => ?_)
      have hor := hz11
      refine w_istore (lv' := [some (.ref 68), some (.int (jI m)), some (.int (jI z11)), some (.int (jI s))]) rfl ?_
      refine w_iinc (lv' := [some (.ref 68), some (.int (jI m)), some (.int (jI z11)), some (.int (jI (s + 1)))]) kc_1 rfl rfl ?_
      refine w_goto ?_
      have hLM := lm_s i1_3 (by omega) (by unfold LRm; first | exact Or.inl ⟨hsh, by omega⟩ | exact Or.inr ⟨rfl, by omega⟩ | omega) hor
      have hLM1 := hLM.1
      have hLM2 := hLM.2.1
      exact ih1 _ z11 (s + 1)  (by omega) (by omega) (by omega) hLM (by omega) (by omega) (by omega) (by omega)
  exact key1 13 _ 0 0  (by omega) (by omega) (by omega) (lm_0 t m) (by omega) (by omega) (by omega) (by omega)
set_option maxRecDepth 100000 in
set_option maxHeartbeats 4000000 in
theorem e_X9_best {d : Nat} {t : TS} {m w : Int}  (ok : OK t) (q0 : WF t 69) (q1 : NZ t 69) (q2 : -2147483648 ≤ m) (q3 : m ≤ 2147483647) (q4 : -2147483648 ≤ w) (q5 : w ≤ 2147483647) : CI (EX FU (d + 6)) 169 [.ref 68, .int (jI m), .int (jI w)] (mk t) (fun z t' => OK t' ∧ Fr [(81, 100), (82, 100), (72, 100), (73, 100)] t t' ∧ (((¬ (1 ≤ m ∧ m ≤ 6 ∧ 0 ≤ w ∧ w ≤ 1)) ∧ z = (-1000000001)) ∨ ((1 ≤ m ∧ m ≤ 6 ∧ 0 ≤ w ∧ w ≤ 1) ∧ (BAp (LRm t m) (cRm t) (tA t 69 1).toNat m.toNat w z)))) := by
  refine CI_ent (d := d + 5) (Bk := bX9_best) (nL := 13) rfl rfl rfl (Nat.le_of_ble_eq_true rfl) ?_
  show Rn _ 1000000 0 [some (.ref 68), some (.int (jI m)), some (.int (jI w)), none, none, none, none, none, none, none, none, none, none] [] _ _
  have fr : Fr [(81, 100), (82, 100), (72, 100), (73, 100)] t t := Fr.rf _ _
  have hn0 := (ok.a (ax_69 nr_1)).1
  have hn1 := (ok.a (ax_69 nr_1)).2
  obtain ⟨BIG, hBIG⟩ : ∃ q : Nat, q = 800000 := ⟨_, rfl⟩
  refine w_step rfl ?_
  refine w_iload rfl ?_
  refine w_push kc_1 ?_
  refine w_push kc_6 ?_
  refine w_callS3I rfl (c_X9_in ok (by omega) (by omega) (by omega) (by omega) (by omega) (by omega)) ?_
  rintro z1 t1 ⟨rfl, hp1_0⟩
  rcases hp1_0 with ⟨rfl, hp1_0⟩ | ⟨rfl, hp1_0⟩
  · skip
    refine w_ieq (by omega) (fun _ => ?_) (fun h => absurd (by omega) h)
    refine w_step rfl ?_
    refine w_push kc_m1000000001 ?_
    refine w_retI rfl ?_
    exact ⟨ok, fr, (by first | (exact Or.inl ⟨by omega, by first | omega | (subst_vars; rfl)⟩) | (exact Or.inr (⟨by omega, ri_a (e := e) (by omega) (by omega) i11_6 (by omega)⟩)))⟩
  refine w_ieq (by omega) (fun h => absurd h (by omega)) (fun _ => ?_)
  refine w_iload rfl ?_
  refine w_push kc_0 ?_
  refine w_push kc_1 ?_
  refine w_callS3I rfl (c_X9_in ok (by omega) (by omega) (by omega) (by omega) (by omega) (by omega)) ?_
  rintro z2 t2 ⟨rfl, hp2_0⟩
  rcases hp2_0 with ⟨rfl, hp2_0⟩ | ⟨rfl, hp2_0⟩
  · skip
    refine w_ine (by omega) (fun h => absurd h (by omega)) (fun _ => ?_)
    refine w_goto ?_
    refine w_step rfl ?_
    refine w_push kc_m1000000001 ?_
    refine w_retI rfl ?_
    exact ⟨ok, fr, (by first | (exact Or.inl ⟨by omega, by first | omega | (subst_vars; rfl)⟩) | (exact Or.inr (⟨by omega, ri_a (e := e) (by omega) (by omega) i11_6 (by omega)⟩)))⟩
  refine w_ine (by omega) (fun _ => ?_) (fun h => absurd (by omega) h)
  refine w_step rfl ?_
  refine w_aload rfl ?_
  refine w_iload rfl ?_
  refine w_callV1I (oj_68 _).choose_spec rfl (e_X9_layable ok (by omega) (by omega)) ?_
  rintro z3 t3 ⟨rfl, hp3_0, hp3_1, hp3_2⟩
  have hly := hp3_0
  have hly1 := hp3_1
  have hly2 := hp3_2
  have hm16 : 1 ≤ m ∧ m ≤ 6 := by omega
  refine w_istore (lv' := [some (.ref 68), some (.int (jI m)), some (.int (jI w)), some (.int (jI z3)), none, none, none, none, none, none, none, none, none]) rfl ?_
  refine w_push kc_0 ?_
  refine w_istore (lv' := [some (.ref 68), some (.int (jI m)), some (.int (jI w)), some (.int (jI z3)), some (.int (jI 0)), none, none, none, none, none, none, none, none]) rfl ?_
  refine w_goto ?_
  have key3 : ∀ (n3 M3 : Nat) (s : Int) (o5 : Option Int) (t4 : TS), OK t4 → Fr [(81, 100), (82, 100), (72, 100), (73, 100)] t t4 → WF t4 69 → (0 ≤ s) → (s ≤ 12) → (s ≤ tA t 69 1) → (∀ q p : Nat, (q : Int) < s → (p : Int) < m → tA t4 73 (12 * q + p) = cRm t q p) → 12 - s < (n3 : Int) → 200 * n3 + (BIG) ≤ M3 → Rn (bX9_best (EX FU (d + 5))) M3 3 [some (.ref 68), some (.int (jI m)), some (.int (jI w)), some (.int (jI z3)), some (.int (jI s)), dv o5, none, none, none, none, none, none, none] [] (mk t4) (PI (fun z t' => OK t' ∧ Fr [(81, 100), (82, 100), (72, 100), (73, 100)] t t' ∧ (((¬ (1 ≤ m ∧ m ≤ 6 ∧ 0 ≤ w ∧ w ≤ 1)) ∧ z = (-1000000001)) ∨ ((1 ≤ m ∧ m ≤ 6 ∧ 0 ≤ w ∧ w ≤ 1) ∧ (BAp (LRm t m) (cRm t) (tA t 69 1).toNat m.toNat w z))))) := by
    intro n3
    induction n3 with
    | zero => intro M3 s o5 t4 ok4 fr4 wf4 i3_0 i3_1 i3_2 i3_3 v3 f3; exfalso; omega
    | succ n3 ih3 =>
      intro M3 s o5 t4 ok4 fr4 wf4 i3_0 i3_1 i3_2 i3_3 v3 f3
      obtain ⟨M3, rfl⟩ : ∃ m, M3 = m + 200 := ⟨M3 - 200, by omega⟩
      refine w_step rfl ?_
      refine w_iload rfl ?_
      refine w_aload rfl ?_
      refine w_getR (g_68_0 _) ?_
      refine w_push kc_1 ?_
      refine w_iald (i := 1) (ai_69 _) (by omega) (by omega) (ax_69 nr_1) ok4 (fun z5 hz5 hl5 hh5 => ?_)
      have hns : z5 = tA t 69 1 := by rw [hz5, fr4.2.1 69 (by simp)]
      refine w_cge (by omega) (fun h6 => ?_) (fun h6 => ?_)
      · skip
        refine w_step rfl ?_
        refine w_push kc_1 ?_
        refine w_aload rfl ?_
        refine w_getR (g_68_0 _) ?_
        refine w_push kc_1 ?_
        refine w_iald (i := 1) (ai_69 _) (by omega) (by omega) (ax_69 nr_1) ok4 (fun z7 hz7 hl7 hh7 => ?_)
        have eN : z7 = tA t 69 1 := by rw [hz7, fr4.2.1 69 (by simp)]
        refine w_bin (fun z8 hz8 hl8 hh8 => ?_)
        have hu8 := shl_r (by omega) hz8
        have eE := hz8
        rw [eN] at eE
        have eP := sh_i (by omega) eE
        have ep12 := p2_12 (n := tA t 69 1) hn1
        have hco : CRt t t4 m := fun s p h1 h2 => i3_3 s p (by omega) h2
        refine w_istore (lv' := [some (.ref 68), some (.int (jI m)), some (.int (jI w)), some (.int (jI z3)), some (.int (jI z8)), dv o5, none, none, none, none, none, none, none]) rfl ?_
        refine w_push kc_0 ?_
        refine w_istore (lv' := [some (.ref 68), some (.int (jI m)), some (.int (jI w)), some (.int (jI z3)), some (.int (jI z8)), some (.int (jI 0)), none, none, none, none, none, none, none]) rfl ?_
        refine w_goto ?_
        have key7 : ∀ (n7 M7 : Nat) (e : Int) (t9 : TS), OK t9 → Fr [(81, 100), (82, 100), (72, 100), (73, 100)] t t9 → WF t9 69 → (0 ≤ e) → (e ≤ 4096) → (e ≤ ((2 ^ (tA t 69 1).toNat : Nat) : Int)) → (∀ a : Nat, (a : Int) < e → tA t9 72 a = if a = 0 then 0 else -1) → (CRt t t9 m) → 4096 - e < (n7 : Int) → 5 * n7 + (700000) ≤ M7 → Rn (bX9_best (EX FU (d + 5))) M7 7 [some (.ref 68), some (.int (jI m)), some (.int (jI w)), some (.int (jI z3)), some (.int (jI z8)), some (.int (jI e)), none, none, none, none, none, none, none] [] (mk t9) (PI (fun z t' => OK t' ∧ Fr [(81, 100), (82, 100), (72, 100), (73, 100)] t t' ∧ (((¬ (1 ≤ m ∧ m ≤ 6 ∧ 0 ≤ w ∧ w ≤ 1)) ∧ z = (-1000000001)) ∨ ((1 ≤ m ∧ m ≤ 6 ∧ 0 ≤ w ∧ w ≤ 1) ∧ (BAp (LRm t m) (cRm t) (tA t 69 1).toNat m.toNat w z))))) := by
          intro n7
          induction n7 with
          | zero => intro M7 e t9 ok9 fr9 wf9 i7_0 i7_1 i7_2 i7_3 i7_4 v7 f7; exfalso; omega
          | succ n7 ih7 =>
            intro M7 e t9 ok9 fr9 wf9 i7_0 i7_1 i7_2 i7_3 i7_4 v7 f7
            obtain ⟨M7, rfl⟩ : ∃ m, M7 = m + 5 := ⟨M7 - 5, by omega⟩
            refine w_step rfl ?_
            refine w_iload rfl ?_
            refine w_iload rfl ?_
            refine w_cge (by omega) (fun h10 => ?_) (fun h10 => ?_)
            · skip
              refine w_step rfl ?_
              refine w_push kc_m1 ?_
              refine w_istore (lv' := [some (.ref 68), some (.int (jI m)), some (.int (jI w)), some (.int (jI z3)), some (.int (jI z8)), some (.int (jI (-1))), none, none, none, none, none, none, none]) rfl ?_
              refine w_push kc_0 ?_
              refine w_istore (lv' := [some (.ref 68), some (.int (jI m)), some (.int (jI w)), some (.int (jI z3)), some (.int (jI z8)), some (.int (jI (-1))), some (.int (jI 0)), none, none, none, none, none, none]) rfl ?_
              refine w_push kc_0 ?_
              refine w_istore (lv' := [some (.ref 68), some (.int (jI m)), some (.int (jI w)), some (.int (jI z3)), some (.int (jI z8)), some (.int (jI (-1))), some (.int (jI 0)), some (.int (jI 0)), none, none, none, none, none]) rfl ?_
              refine w_goto ?_
              have key11 : ∀ (n11 M11 : Nat) (best : Int) (least : Int) (e : Int) (o8 : Option Int) (o9 : Option Int) (o10 : Option Int) (o11 : Option Int) (o12 : Option Int) (t11 : TS), OK t11 → Fr [(81, 100), (82, 100), (72, 100), (73, 100)] t t11 → WF t11 69 → (-1 ≤ best) → (best ≤ 11) → (-2147483648 ≤ least ∧ least ≤ 2147483647) → (0 ≤ e) → (e ≤ 4096) → (e ≤ ((2 ^ (tA t 69 1).toNat : Nat) : Int)) → (RIt t t11 m e best least) → (CRt t t11 m) → 4096 - e < (n11 : Int) → 150 * n11 + (1000) ≤ M11 → Rn (bX9_best (EX FU (d + 5))) M11 11 [some (.ref 68), some (.int (jI m)), some (.int (jI w)), some (.int (jI z3)), some (.int (jI z8)), some (.int (jI best)), some (.int (jI least)), some (.int (jI e)), dv o8, dv o9, dv o10, dv o11, dv o12] [] (mk t11) (PI (fun z t' => OK t' ∧ Fr [(81, 100), (82, 100), (72, 100), (73, 100)] t t' ∧ (((¬ (1 ≤ m ∧ m ≤ 6 ∧ 0 ≤ w ∧ w ≤ 1)) ∧ z = (-1000000001)) ∨ ((1 ≤ m ∧ m ≤ 6 ∧ 0 ≤ w ∧ w ≤ 1) ∧ (BAp (LRm t m) (cRm t) (tA t 69 1).toNat m.toNat w z))))) := by
                intro n11
                induction n11 with
                | zero => intro M11 best least e o8 o9 o10 o11 o12 t11 ok11 fr11 wf11 i11_0 i11_1 i11_2 i11_3 i11_4 i11_5 i11_6 i11_7 v11 f11; exfalso; omega
                | succ n11 ih11 =>
                  intro M11 best least e o8 o9 o10 o11 o12 t11 ok11 fr11 wf11 i11_0 i11_1 i11_2 i11_3 i11_4 i11_5 i11_6 i11_7 v11 f11
                  obtain ⟨M11, rfl⟩ : ∃ m, M11 = m + 150 := ⟨M11 - 150, by omega⟩
                  refine w_step rfl ?_
                  refine w_iload rfl ?_
                  refine w_iload rfl ?_
                  refine w_cge (by omega) (fun h12 => ?_) (fun h12 => ?_)
                  · skip
                    refine w_step rfl ?_
                    refine w_iload rfl ?_
                    refine w_ige (by omega) (fun h13 => ?_) (fun h13 => ?_)
                    · skip
                      refine w_step rfl ?_
                      refine w_iload rfl ?_
                      refine w_ine (by omega) (fun h14 => ?_) (fun h14 => ?_)
                      · skip
                        refine w_step rfl ?_
                        refine w_iload rfl ?_
                        refine w_goto ?_
                        refine w_step rfl ?_
                        refine w_retI rfl ?_
                        exact ⟨ok11, fr11, (by first | (exact Or.inl ⟨by omega, by first | omega | (subst_vars; rfl)⟩) | (exact Or.inr (⟨by omega, ri_a (e := e) (by omega) (by omega) i11_6 (by omega)⟩)))⟩
                      refine w_iload rfl ?_
                      refine w_goto ?_
                      refine w_step rfl ?_
                      refine w_retI rfl ?_
                      exact ⟨ok11, fr11, (by first | (exact Or.inl ⟨by omega, by first | omega | (subst_vars; rfl)⟩) | (exact Or.inr (⟨by omega, ri_a (e := e) (by omega) (by omega) i11_6 (by omega)⟩)))⟩
                    refine w_push kc_m1000000005 ?_
                    refine w_goto ?_
                    refine w_step rfl ?_
                    refine w_retI rfl ?_
                    exact ⟨ok11, fr11, (by first | (exact Or.inl ⟨by omega, by first | omega | (subst_vars; rfl)⟩) | (exact Or.inr (⟨by omega, ri_a (e := e) (by omega) (by omega) i11_6 (by omega)⟩)))⟩
                  refine w_iload rfl ?_
                  refine w_push kc_1 ?_
                  refine w_sub ?_
                  refine w_iload rfl ?_
                  refine w_callS1I rfl (e_X9_bits ok11 (by omega) (by omega)) ?_
                  rintro z15 t15 ⟨rfl, hp15_0, hp15_1, hp15_2⟩
                  have hbi := hp15_0
                  refine w_sub ?_
                  refine w_istore (lv' := [some (.ref 68), some (.int (jI m)), some (.int (jI w)), some (.int (jI z3)), some (.int (jI z8)), some (.int (jI best)), some (.int (jI least)), some (.int (jI e)), some (.int (jI ((m - 1) - z15))), dv o9, dv o10, dv o11, dv o12]) rfl ?_
                  refine w_push kc_0 ?_
                  refine w_istore (lv' := [some (.ref 68), some (.int (jI m)), some (.int (jI w)), some (.int (jI z3)), some (.int (jI z8)), some (.int (jI best)), some (.int (jI least)), some (.int (jI e)), some (.int (jI ((m - 1) - z15))), some (.int (jI 0)), dv o10, dv o11, dv o12]) rfl ?_
                  refine w_goto ?_
                  have key12 : ∀ (n12 M12 : Nat) (best : Int) (least : Int) (s : Int) (o10 : Option Int) (o11 : Option Int) (o12 : Option Int) (t16 : TS), OK t16 → Fr [(81, 100), (82, 100), (72, 100), (73, 100)] t t16 → WF t16 69 → (-1 ≤ best) → (best ≤ 11) → (-2147483648 ≤ least ∧ least ≤ 2147483647) → (0 ≤ s) → (s ≤ 12) → (True) → (s ≤ tA t 69 1) → (RJt t t16 m e s best least) → (CRt t t16 m) → 12 - s < (n12 : Int) → 11 * n12 + (150 * n11 + 1000) ≤ M12 → Rn (bX9_best (EX FU (d + 5))) M12 12 [some (.ref 68), some (.int (jI m)), some (.int (jI w)), some (.int (jI z3)), some (.int (jI z8)), some (.int (jI best)), some (.int (jI least)), some (.int (jI e)), some (.int (jI ((m - 1) - z15))), some (.int (jI s)), dv o10, dv o11, dv o12] [] (mk t16) (PI (fun z t' => OK t' ∧ Fr [(81, 100), (82, 100), (72, 100), (73, 100)] t t' ∧ (((¬ (1 ≤ m ∧ m ≤ 6 ∧ 0 ≤ w ∧ w ≤ 1)) ∧ z = (-1000000001)) ∨ ((1 ≤ m ∧ m ≤ 6 ∧ 0 ≤ w ∧ w ≤ 1) ∧ (BAp (LRm t m) (cRm t) (tA t 69 1).toNat m.toNat w z))))) := by
                    intro n12
                    induction n12 with
                    | zero => intro M12 best least s o10 o11 o12 t16 ok16 fr16 wf16 i12_0 i12_1 i12_2 i12_3 i12_4 i12_5 i12_6 i12_7 i12_8 v12 f12; exfalso; omega
                    | succ n12 ih12 =>
                      intro M12 best least s o10 o11 o12 t16 ok16 fr16 wf16 i12_0 i12_1 i12_2 i12_3 i12_4 i12_5 i12_6 i12_7 i12_8 v12 f12
                      obtain ⟨M12, rfl⟩ : ∃ m, M12 = m + 11 := ⟨M12 - 11, by omega⟩
                      have okc := ok16
                      refine w_step rfl ?_
                      refine w_iload rfl ?_
                      refine w_aload rfl ?_
                      refine w_getR (g_68_0 _) ?_
                      refine w_push kc_1 ?_
                      refine w_iald (i := 1) (ai_69 _) (by omega) (by omega) (ax_69 nr_1) ok16 (fun z17 hz17 hl17 hh17 => ?_)
                      have eM : z17 = tA t 69 1 := by rw [hz17, fr16.2.1 69 (by simp)]
                      refine w_cge (by omega) (fun h18 => ?_) (fun h18 => ?_)
                      · skip
                        refine w_step rfl ?_
                        refine w_iinc (lv' := [some (.ref 68), some (.int (jI m)), some (.int (jI w)), some (.int (jI z3)), some (.int (jI z8)), some (.int (jI best)), some (.int (jI least)), some (.int (jI (e + 1))), some (.int (jI ((m - 1) - z15))), some (.int (jI s)), dv o10, dv o11, dv o12]) kc_1 rfl rfl ?_
                        refine w_goto ?_
                        have hri : RIt t t16 m (e + 1) best least := by first | exact rj_e (by omega) i11_3 i12_7 (by omega) | exact rj_k (x := 0) (by omega) i11_3 hn1 i12_7 hbi rfl (Or.inl (by omega)) | exact rj_k (by omega) i11_3 hn1 i12_7 hbi rfl (Or.inr ⟨hXe, by omega⟩) | omega
                        exact ih11 _ best least (e + 1) (some ((m - 1) - z15)) (some s) o10 o11 o12 t16 ok16 fr16 wf16 (by omega) (by omega) (by omega) (by omega) (by omega) (by omega) hri i12_8 (by omega) (by omega)
                      refine w_iload rfl ?_
                      refine w_ilt (by omega) (fun h19 => ?_) (fun h19 => ?_)
                      · skip
                        refine w_step rfl ?_
                        refine w_iinc (lv' := [some (.ref 68), some (.int (jI m)), some (.int (jI w)), some (.int (jI z3)), some (.int (jI z8)), some (.int (jI best)), some (.int (jI least)), some (.int (jI (e + 1))), some (.int (jI ((m - 1) - z15))), some (.int (jI s)), dv o10, dv o11, dv o12]) kc_1 rfl rfl ?_
                        refine w_goto ?_
                        have hri : RIt t t16 m (e + 1) best least := by first | exact rj_e (by omega) i11_3 i12_7 (by omega) | exact rj_k (x := 0) (by omega) i11_3 hn1 i12_7 hbi rfl (Or.inl (by omega)) | exact rj_k (by omega) i11_3 hn1 i12_7 hbi rfl (Or.inr ⟨hXe, by omega⟩) | omega
                        exact ih11 _ best least (e + 1) (some ((m - 1) - z15)) (some s) o10 o11 o12 t16 ok16 fr16 wf16 (by omega) (by omega) (by omega) (by omega) (by omega) (by omega) hri i12_8 (by omega) (by omega)
                      refine w_aload rfl ?_
                      refine w_getR (g_68_5 _) ?_
                      refine w_iload rfl ?_
                      refine w_iald (i := (e).toNat) (ai_72 _) (by omega) (by omega) (ae_72 _) ok16 (fun z20 hz20 hl20 hh20 => ?_)
                      have hXe := hz20
                      refine w_ilt (by omega) (fun h21 => ?_) (fun h21 => ?_)
                      · skip
                        refine w_step rfl ?_
                        refine w_iinc (lv' := [some (.ref 68), some (.int (jI m)), some (.int (jI w)), some (.int (jI z3)), some (.int (jI z8)), some (.int (jI best)), some (.int (jI least)), some (.int (jI (e + 1))), some (.int (jI ((m - 1) - z15))), some (.int (jI s)), dv o10, dv o11, dv o12]) kc_1 rfl rfl ?_
                        refine w_goto ?_
                        have hri : RIt t t16 m (e + 1) best least := by first | exact rj_e (by omega) i11_3 i12_7 (by omega) | exact rj_k (x := 0) (by omega) i11_3 hn1 i12_7 hbi rfl (Or.inl (by omega)) | exact rj_k (by omega) i11_3 hn1 i12_7 hbi rfl (Or.inr ⟨hXe, by omega⟩) | omega
                        exact ih11 _ best least (e + 1) (some ((m - 1) - z15)) (some s) o10 o11 o12 t16 ok16 fr16 wf16 (by omega) (by omega) (by omega) (by omega) (by omega) (by omega) hri i12_8 (by omega) (by omega)
                      refine w_iload rfl ?_
                      refine w_iload rfl ?_
                      refine w_push kc_m1 ?_
                      refine w_bin (fun z22 hz22 hl22 hh22 => ?_)
                      have hm1 := hz22
                      refine w_bin (fun z23 hz23 hl23 hh23 => ?_)
                      have hm2 := hz23
                      refine w_push kc_1 ?_
                      refine w_iload rfl ?_
                      refine w_bin (fun z24 hz24 hl24 hh24 => ?_)
                      have hm3 := hz24
                      refine w_bin (fun z25 hz25 hl25 hh25 => ?_)
                      have hm4 := hz25
                      have hmk := mk_i hly1 i11_3 (by omega) hm1 hm2 hm3 hm4
                      refine w_ieq (by omega) (fun h26 => ?_) (fun h26 => ?_)
                      · skip
                        refine w_step rfl ?_
                        refine w_iinc (lv' := [some (.ref 68), some (.int (jI m)), some (.int (jI w)), some (.int (jI z3)), some (.int (jI z8)), some (.int (jI best)), some (.int (jI least)), some (.int (jI e)), some (.int (jI ((m - 1) - z15))), some (.int (jI (s + 1))), dv o10, dv o11, dv o12]) kc_1 rfl rfl ?_
                        refine w_goto ?_
                        have hrj : RJt t t16 m e (s + 1) best least := by
                          first
                            | exact rj_n (by omega) i11_3 (by omega) i12_7 hly hmk (by omega)
                            | exact rj_b hm16 i11_3 (by omega) hn1 (by omega) i12_7 hbi rfl hXf (by omega) hly hmk (by omega) hcs rfl (by omega) (by omega)
                            | exact rj_x okc hm16 i11_3 (by omega) hn1 (by omega) i12_7 hbi rfl hXf (by omega) hly hmk (by omega) i12_8 hcs rfl (by omega) hG.1 hy1 (Or.inl ⟨by omega, ht99qq⟩)
                            | exact rj_x okc hm16 i11_3 (by omega) hn1 (by omega) i12_7 hbi rfl hXf (by omega) hly hmk (by omega) i12_8 hcs rfl (by omega) hG.1 hy1 (Or.inr ⟨by omega, rfl⟩)
                            | omega
                        exact ih12 _ best least (s + 1) o10 o11 o12 t16 ok16 fr16 wf16 (by omega) (by omega) (by omega) (by omega) (by omega) trivial (by omega) hrj (fun s p h1 h2 => by first | exact i12_8 s p h1 h2 | (rw [ht99qq, tA_uA, if_neg (by omega)]; exact i12_8 s p h1 h2)) (by omega) (by omega)
                      refine w_aload rfl ?_
                      refine w_getR (g_68_5 _) ?_
                      refine w_iload rfl ?_
                      refine w_iald (i := (e).toNat) (ai_72 _) (by omega) (by omega) (ae_72 _) ok16 (fun z27 hz27 hl27 hh27 => ?_)
                      have hXf := hz27
                      have hxr := rj_r ok16 hm16 i11_3 (by omega) i12_7 i12_8 hXf (by omega)
                      refine w_aload rfl ?_
                      refine w_getR (g_68_6 _) ?_
                      refine w_push kc_12 ?_
                      refine w_iload rfl ?_
                      refine w_mul ?_
                      refine w_iload rfl ?_
                      refine w_add ?_
                      refine w_iald (i := (((12 * s) + ((m - 1) - z15))).toNat) (ai_73 _) (by omega) (by omega) (ae_73 _) ok16 (fun z28 hz28 hl28 hh28 => ?_)
                      have hcs : z28 = cRm t s.toNat (((m - 1) - z15)).toNat := by
                        rw [hz28, show (12 * s + ((m - 1) - z15)).toNat = 12 * s.toNat + (((m - 1) - z15)).toNat by omega]
                        exact i12_8 _ _ (by omega) (by omega)
                      refine w_add ?_
                      refine w_istore (lv' := [some (.ref 68), some (.int (jI m)), some (.int (jI w)), some (.int (jI z3)), some (.int (jI z8)), some (.int (jI best)), some (.int (jI least)), some (.int (jI e)), some (.int (jI ((m - 1) - z15))), some (.int (jI s)), some (.int (jI (z27 + z28))), dv o11, dv o12]) rfl ?_
                      refine w_iload rfl ?_
                      refine w_push kc_1 ?_
                      refine w_iload rfl ?_
                      refine w_bin (fun z29 hz29 hl29 hh29 => ?_)
                      have hL := hz29
                      refine w_bin (fun z30 hz30 hl30 hh30 => ?_)
                      have hO := or_lt (n := tA t 69 1) (by omega) (by omega) eE (by omega) hL hz30
                      have hG := or_i i11_3 (by omega) hn1 (by omega) hL hz30
                      refine w_istore (lv' := [some (.ref 68), some (.int (jI m)), some (.int (jI w)), some (.int (jI z3)), some (.int (jI z8)), some (.int (jI best)), some (.int (jI least)), some (.int (jI e)), some (.int (jI ((m - 1) - z15))), some (.int (jI s)), some (.int (jI (z27 + z28))), some (.int (jI z30)), dv o12]) rfl ?_
                      refine w_iload rfl ?_
                      refine w_ine (by omega) (fun h31 => ?_) (fun h31 => ?_)
                      · skip
                        refine w_step rfl ?_
                        refine w_aload rfl ?_
                        refine w_getR (g_68_5 _) ?_
                        refine w_iload rfl ?_
                        refine w_iald (i := (z30).toNat) (ai_72 _) (by omega) (by omega) (ae_72 _) ok16 (fun z32 hz32 hl32 hh32 => ?_)
                        have hy1 := hz32
                        refine w_ilt (by omega) (fun h33 => ?_) (fun h33 => ?_)
                        · skip
                          refine w_step rfl ?_
                          refine w_aload rfl ?_
                          refine w_getR (g_68_5 _) ?_
                          refine w_iload rfl ?_
                          refine w_iload rfl ?_
                          refine w_iast (i := (z30).toNat) (ai_72 _) rfl (by omega) (by omega) (ae_72 _) ok16 (by omega) (fun t34 ht34 ok34 => ?_)
                          have fr34 := fr16.uA ht34 (by simp)
                          have wf34 := wf16.uAo ht34 (by decide)
                          refine w_goto ?_
                          refine w_step rfl ?_
                          refine w_iinc (lv' := [some (.ref 68), some (.int (jI m)), some (.int (jI w)), some (.int (jI z3)), some (.int (jI z8)), some (.int (jI best)), some (.int (jI least)), some (.int (jI e)), some (.int (jI ((m - 1) - z15))), some (.int (jI (s + 1))), some (.int (jI (z27 + z28))), some (.int (jI z30)), dv o12]) kc_1 rfl rfl ?_
                          refine w_goto ?_
                          have hrj : RJt t t34 m e (s + 1) best least := by
                            first
                              | exact rj_n (by omega) i11_3 (by omega) i12_7 hly hmk (by omega)
                              | exact rj_b hm16 i11_3 (by omega) hn1 (by omega) i12_7 hbi rfl hXf (by omega) hly hmk (by omega) hcs rfl (by omega) (by omega)
                              | exact rj_x okc hm16 i11_3 (by omega) hn1 (by omega) i12_7 hbi rfl hXf (by omega) hly hmk (by omega) i12_8 hcs rfl (by omega) hG.1 hy1 (Or.inl ⟨by omega, ht34⟩)
                              | exact rj_x okc hm16 i11_3 (by omega) hn1 (by omega) i12_7 hbi rfl hXf (by omega) hly hmk (by omega) i12_8 hcs rfl (by omega) hG.1 hy1 (Or.inr ⟨by omega, rfl⟩)
                              | omega
                          exact ih12 _ best least (s + 1) (some (z27 + z28)) (some z30) o12 t34 ok34 fr34 wf34 (by omega) (by omega) (by omega) (by omega) (by omega) trivial (by omega) hrj (fun s p h1 h2 => by first | exact i12_8 s p h1 h2 | (rw [ht34, tA_uA, if_neg (by omega)]; exact i12_8 s p h1 h2)) (by omega) (by omega)
                        refine w_iload rfl ?_
                        refine w_aload rfl ?_
                        refine w_getR (g_68_5 _) ?_
                        refine w_iload rfl ?_
                        refine w_iald (i := (z30).toNat) (ai_72 _) (by omega) (by omega) (ae_72 _) ok16 (fun z35 hz35 hl35 hh35 => ?_)
                        have hy2 := hz35
                        refine w_cge (by omega) (fun h36 => ?_) (fun h36 => ?_)
                        · skip
                          refine w_step rfl ?_
                          refine w_iinc (lv' := [some (.ref 68), some (.int (jI m)), some (.int (jI w)), some (.int (jI z3)), some (.int (jI z8)), some (.int (jI best)), some (.int (jI least)), some (.int (jI e)), some (.int (jI ((m - 1) - z15))), some (.int (jI (s + 1))), some (.int (jI (z27 + z28))), some (.int (jI z30)), dv o12]) kc_1 rfl rfl ?_
                          refine w_goto ?_
                          have hrj : RJt t t16 m e (s + 1) best least := by
                            first
                              | exact rj_n (by omega) i11_3 (by omega) i12_7 hly hmk (by omega)
                              | exact rj_b hm16 i11_3 (by omega) hn1 (by omega) i12_7 hbi rfl hXf (by omega) hly hmk (by omega) hcs rfl (by omega) (by omega)
                              | exact rj_x okc hm16 i11_3 (by omega) hn1 (by omega) i12_7 hbi rfl hXf (by omega) hly hmk (by omega) i12_8 hcs rfl (by omega) hG.1 hy1 (Or.inl ⟨by omega, ht99qq⟩)
                              | exact rj_x okc hm16 i11_3 (by omega) hn1 (by omega) i12_7 hbi rfl hXf (by omega) hly hmk (by omega) i12_8 hcs rfl (by omega) hG.1 hy1 (Or.inr ⟨by omega, rfl⟩)
                              | omega
                          exact ih12 _ best least (s + 1) (some (z27 + z28)) (some z30) o12 t16 ok16 fr16 wf16 (by omega) (by omega) (by omega) (by omega) (by omega) trivial (by omega) hrj (fun s p h1 h2 => by first | exact i12_8 s p h1 h2 | (rw [ht99qq, tA_uA, if_neg (by omega)]; exact i12_8 s p h1 h2)) (by omega) (by omega)
                        refine w_goto ?_
                        refine w_step rfl ?_
                        refine w_aload rfl ?_
                        refine w_getR (g_68_5 _) ?_
                        refine w_iload rfl ?_
                        refine w_iload rfl ?_
                        refine w_iast (i := (z30).toNat) (ai_72 _) rfl (by omega) (by omega) (ae_72 _) ok16 (by omega) (fun t37 ht37 ok37 => ?_)
                        have fr37 := fr16.uA ht37 (by simp)
                        have wf37 := wf16.uAo ht37 (by decide)
                        refine w_goto ?_
                        refine w_step rfl ?_
                        refine w_iinc (lv' := [some (.ref 68), some (.int (jI m)), some (.int (jI w)), some (.int (jI z3)), some (.int (jI z8)), some (.int (jI best)), some (.int (jI least)), some (.int (jI e)), some (.int (jI ((m - 1) - z15))), some (.int (jI (s + 1))), some (.int (jI (z27 + z28))), some (.int (jI z30)), dv o12]) kc_1 rfl rfl ?_
                        refine w_goto ?_
                        have hrj : RJt t t37 m e (s + 1) best least := by
                          first
                            | exact rj_n (by omega) i11_3 (by omega) i12_7 hly hmk (by omega)
                            | exact rj_b hm16 i11_3 (by omega) hn1 (by omega) i12_7 hbi rfl hXf (by omega) hly hmk (by omega) hcs rfl (by omega) (by omega)
                            | exact rj_x okc hm16 i11_3 (by omega) hn1 (by omega) i12_7 hbi rfl hXf (by omega) hly hmk (by omega) i12_8 hcs rfl (by omega) hG.1 hy1 (Or.inl ⟨by omega, ht37⟩)
                            | exact rj_x okc hm16 i11_3 (by omega) hn1 (by omega) i12_7 hbi rfl hXf (by omega) hly hmk (by omega) i12_8 hcs rfl (by omega) hG.1 hy1 (Or.inr ⟨by omega, rfl⟩)
                            | omega
                        exact ih12 _ best least (s + 1) (some (z27 + z28)) (some z30) o12 t37 ok37 fr37 wf37 (by omega) (by omega) (by omega) (by omega) (by omega) trivial (by omega) hrj (fun s p h1 h2 => by first | exact i12_8 s p h1 h2 | (rw [ht37, tA_uA, if_neg (by omega)]; exact i12_8 s p h1 h2)) (by omega) (by omega)
                      refine w_iload rfl ?_
                      refine w_ilt (by omega) (fun h38 => ?_) (fun h38 => ?_)
                      · skip
                        refine w_step rfl ?_
                        refine w_push kc_1 ?_
                        refine w_goto ?_
                        refine w_step rfl ?_
                        refine w_istore (lv' := [some (.ref 68), some (.int (jI m)), some (.int (jI w)), some (.int (jI z3)), some (.int (jI z8)), some (.int (jI best)), some (.int (jI least)), some (.int (jI e)), some (.int (jI ((m - 1) - z15))), some (.int (jI s)), some (.int (jI (z27 + z28))), some (.int (jI z30)), some (.int (jI 1))]) rfl ?_
                        refine w_iload rfl ?_
                        refine w_ieq (by omega) (fun h => absurd h (by omega)) (fun _ => ?_)
                        refine w_iload rfl ?_
                        refine w_goto ?_
                        refine w_step rfl ?_
                        refine w_istore (lv' := [some (.ref 68), some (.int (jI m)), some (.int (jI w)), some (.int (jI z3)), some (.int (jI z8)), some (.int (jI s)), some (.int (jI least)), some (.int (jI e)), some (.int (jI ((m - 1) - z15))), some (.int (jI s)), some (.int (jI (z27 + z28))), some (.int (jI z30)), some (.int (jI 1))]) rfl ?_
                        refine w_iload rfl ?_
                        refine w_ieq (by omega) (fun h => absurd h (by omega)) (fun _ => ?_)
                        refine w_iload rfl ?_
                        refine w_goto ?_
                        refine w_step rfl ?_
                        refine w_istore (lv' := [some (.ref 68), some (.int (jI m)), some (.int (jI w)), some (.int (jI z3)), some (.int (jI z8)), some (.int (jI s)), some (.int (jI (z27 + z28))), some (.int (jI e)), some (.int (jI ((m - 1) - z15))), some (.int (jI s)), some (.int (jI (z27 + z28))), some (.int (jI z30)), some (.int (jI 1))]) rfl ?_
                        refine w_goto ?_
                        refine w_step rfl ?_
                        refine w_iinc (lv' := [some (.ref 68), some (.int (jI m)), some (.int (jI w)), some (.int (jI z3)), some (.int (jI z8)), some (.int (jI s)), some (.int (jI (z27 + z28))), some (.int (jI e)), some (.int (jI ((m - 1) - z15))), some (.int (jI (s + 1))), some (.int (jI (z27 + z28))), some (.int (jI z30)), some (.int (jI 1))]) kc_1 rfl rfl ?_
                        refine w_goto ?_
                        have hrj : RJt t t16 m e (s + 1) s (z27 + z28) := by
                          first
                            | exact rj_n (by omega) i11_3 (by omega) i12_7 hly hmk (by omega)
                            | exact rj_b hm16 i11_3 (by omega) hn1 (by omega) i12_7 hbi rfl hXf (by omega) hly hmk (by omega) hcs rfl (by omega) (by omega)
                            | exact rj_x okc hm16 i11_3 (by omega) hn1 (by omega) i12_7 hbi rfl hXf (by omega) hly hmk (by omega) i12_8 hcs rfl (by omega) hG.1 hy1 (Or.inl ⟨by omega, ht99qq⟩)
                            | exact rj_x okc hm16 i11_3 (by omega) hn1 (by omega) i12_7 hbi rfl hXf (by omega) hly hmk (by omega) i12_8 hcs rfl (by omega) hG.1 hy1 (Or.inr ⟨by omega, rfl⟩)
                            | omega
                        exact ih12 _ s (z27 + z28) (s + 1) (some (z27 + z28)) (some z30) (some 1) t16 ok16 fr16 wf16 (by omega) (by omega) (by omega) (by omega) (by omega) trivial (by omega) hrj (fun s p h1 h2 => by first | exact i12_8 s p h1 h2 | (rw [ht99qq, tA_uA, if_neg (by omega)]; exact i12_8 s p h1 h2)) (by omega) (by omega)
                      refine w_iload rfl ?_
                      refine w_iload rfl ?_
                      refine w_clt (by omega) (fun h39 => ?_) (fun h39 => ?_)
                      · skip
                        refine w_step rfl ?_
                        refine w_push kc_1 ?_
                        refine w_goto ?_
                        refine w_step rfl ?_
                        refine w_istore (lv' := [some (.ref 68), some (.int (jI m)), some (.int (jI w)), some (.int (jI z3)), some (.int (jI z8)), some (.int (jI best)), some (.int (jI least)), some (.int (jI e)), some (.int (jI ((m - 1) - z15))), some (.int (jI s)), some (.int (jI (z27 + z28))), some (.int (jI z30)), some (.int (jI 1))]) rfl ?_
                        refine w_iload rfl ?_
                        refine w_ieq (by omega) (fun h => absurd h (by omega)) (fun _ => ?_)
                        refine w_iload rfl ?_
                        refine w_goto ?_
                        refine w_step rfl ?_
                        refine w_istore (lv' := [some (.ref 68), some (.int (jI m)), some (.int (jI w)), some (.int (jI z3)), some (.int (jI z8)), some (.int (jI s)), some (.int (jI least)), some (.int (jI e)), some (.int (jI ((m - 1) - z15))), some (.int (jI s)), some (.int (jI (z27 + z28))), some (.int (jI z30)), some (.int (jI 1))]) rfl ?_
                        refine w_iload rfl ?_
                        refine w_ieq (by omega) (fun h => absurd h (by omega)) (fun _ => ?_)
                        refine w_iload rfl ?_
                        refine w_goto ?_
                        refine w_step rfl ?_
                        refine w_istore (lv' := [some (.ref 68), some (.int (jI m)), some (.int (jI w)), some (.int (jI z3)), some (.int (jI z8)), some (.int (jI s)), some (.int (jI (z27 + z28))), some (.int (jI e)), some (.int (jI ((m - 1) - z15))), some (.int (jI s)), some (.int (jI (z27 + z28))), some (.int (jI z30)), some (.int (jI 1))]) rfl ?_
                        refine w_goto ?_
                        refine w_step rfl ?_
                        refine w_iinc (lv' := [some (.ref 68), some (.int (jI m)), some (.int (jI w)), some (.int (jI z3)), some (.int (jI z8)), some (.int (jI s)), some (.int (jI (z27 + z28))), some (.int (jI e)), some (.int (jI ((m - 1) - z15))), some (.int (jI (s + 1))), some (.int (jI (z27 + z28))), some (.int (jI z30)), some (.int (jI 1))]) kc_1 rfl rfl ?_
                        refine w_goto ?_
                        have hrj : RJt t t16 m e (s + 1) s (z27 + z28) := by
                          first
                            | exact rj_n (by omega) i11_3 (by omega) i12_7 hly hmk (by omega)
                            | exact rj_b hm16 i11_3 (by omega) hn1 (by omega) i12_7 hbi rfl hXf (by omega) hly hmk (by omega) hcs rfl (by omega) (by omega)
                            | exact rj_x okc hm16 i11_3 (by omega) hn1 (by omega) i12_7 hbi rfl hXf (by omega) hly hmk (by omega) i12_8 hcs rfl (by omega) hG.1 hy1 (Or.inl ⟨by omega, ht99qq⟩)
                            | exact rj_x okc hm16 i11_3 (by omega) hn1 (by omega) i12_7 hbi rfl hXf (by omega) hly hmk (by omega) i12_8 hcs rfl (by omega) hG.1 hy1 (Or.inr ⟨by omega, rfl⟩)
                            | omega
                        exact ih12 _ s (z27 + z28) (s + 1) (some (z27 + z28)) (some z30) (some 1) t16 ok16 fr16 wf16 (by omega) (by omega) (by omega) (by omega) (by omega) trivial (by omega) hrj (fun s p h1 h2 => by first | exact i12_8 s p h1 h2 | (rw [ht99qq, tA_uA, if_neg (by omega)]; exact i12_8 s p h1 h2)) (by omega) (by omega)
                      refine w_iload rfl ?_
                      refine w_iload rfl ?_
                      refine w_cne (by omega) (fun h40 => ?_) (fun h40 => ?_)
                      · skip
                        refine w_step rfl ?_
                        refine w_push kc_0 ?_
                        refine w_goto ?_
                        refine w_step rfl ?_
                        refine w_istore (lv' := [some (.ref 68), some (.int (jI m)), some (.int (jI w)), some (.int (jI z3)), some (.int (jI z8)), some (.int (jI best)), some (.int (jI least)), some (.int (jI e)), some (.int (jI ((m - 1) - z15))), some (.int (jI s)), some (.int (jI (z27 + z28))), some (.int (jI z30)), some (.int (jI 0))]) rfl ?_
                        refine w_iload rfl ?_
                        refine w_ieq (by omega) (fun _ => ?_) (fun h => absurd (by omega) h)
                        refine w_step rfl ?_
                        refine w_iload rfl ?_
                        refine w_goto ?_
                        refine w_step rfl ?_
                        refine w_istore (lv' := [some (.ref 68), some (.int (jI m)), some (.int (jI w)), some (.int (jI z3)), some (.int (jI z8)), some (.int (jI best)), some (.int (jI least)), some (.int (jI e)), some (.int (jI ((m - 1) - z15))), some (.int (jI s)), some (.int (jI (z27 + z28))), some (.int (jI z30)), some (.int (jI 0))]) rfl ?_
                        refine w_iload rfl ?_
                        refine w_ieq (by omega) (fun _ => ?_) (fun h => absurd (by omega) h)
                        refine w_step rfl ?_
                        refine w_iload rfl ?_
                        refine w_goto ?_
                        refine w_step rfl ?_
                        refine w_istore (lv' := [some (.ref 68), some (.int (jI m)), some (.int (jI w)), some (.int (jI z3)), some (.int (jI z8)), some (.int (jI best)), some (.int (jI least)), some (.int (jI e)), some (.int (jI ((m - 1) - z15))), some (.int (jI s)), some (.int (jI (z27 + z28))), some (.int (jI z30)), some (.int (jI 0))]) rfl ?_
                        refine w_goto ?_
                        refine w_step rfl ?_
                        refine w_iinc (lv' := [some (.ref 68), some (.int (jI m)), some (.int (jI w)), some (.int (jI z3)), some (.int (jI z8)), some (.int (jI best)), some (.int (jI least)), some (.int (jI e)), some (.int (jI ((m - 1) - z15))), some (.int (jI (s + 1))), some (.int (jI (z27 + z28))), some (.int (jI z30)), some (.int (jI 0))]) kc_1 rfl rfl ?_
                        refine w_goto ?_
                        have hrj : RJt t t16 m e (s + 1) best least := by
                          first
                            | exact rj_n (by omega) i11_3 (by omega) i12_7 hly hmk (by omega)
                            | exact rj_b hm16 i11_3 (by omega) hn1 (by omega) i12_7 hbi rfl hXf (by omega) hly hmk (by omega) hcs rfl (by omega) (by omega)
                            | exact rj_x okc hm16 i11_3 (by omega) hn1 (by omega) i12_7 hbi rfl hXf (by omega) hly hmk (by omega) i12_8 hcs rfl (by omega) hG.1 hy1 (Or.inl ⟨by omega, ht99qq⟩)
                            | exact rj_x okc hm16 i11_3 (by omega) hn1 (by omega) i12_7 hbi rfl hXf (by omega) hly hmk (by omega) i12_8 hcs rfl (by omega) hG.1 hy1 (Or.inr ⟨by omega, rfl⟩)
                            | omega
                        exact ih12 _ best least (s + 1) (some (z27 + z28)) (some z30) (some 0) t16 ok16 fr16 wf16 (by omega) (by omega) (by omega) (by omega) (by omega) trivial (by omega) hrj (fun s p h1 h2 => by first | exact i12_8 s p h1 h2 | (rw [ht99qq, tA_uA, if_neg (by omega)]; exact i12_8 s p h1 h2)) (by omega) (by omega)
                      refine w_iload rfl ?_
                      refine w_iload rfl ?_
                      refine w_cge (by omega) (fun h41 => ?_) (fun h41 => ?_)
                      · skip
                        refine w_step rfl ?_
                        refine w_push kc_0 ?_
                        refine w_goto ?_
                        refine w_step rfl ?_
                        refine w_istore (lv' := [some (.ref 68), some (.int (jI m)), some (.int (jI w)), some (.int (jI z3)), some (.int (jI z8)), some (.int (jI best)), some (.int (jI least)), some (.int (jI e)), some (.int (jI ((m - 1) - z15))), some (.int (jI s)), some (.int (jI (z27 + z28))), some (.int (jI z30)), some (.int (jI 0))]) rfl ?_
                        refine w_iload rfl ?_
                        refine w_ieq (by omega) (fun _ => ?_) (fun h => absurd (by omega) h)
                        refine w_step rfl ?_
                        refine w_iload rfl ?_
                        refine w_goto ?_
                        refine w_step rfl ?_
                        refine w_istore (lv' := [some (.ref 68), some (.int (jI m)), some (.int (jI w)), some (.int (jI z3)), some (.int (jI z8)), some (.int (jI best)), some (.int (jI least)), some (.int (jI e)), some (.int (jI ((m - 1) - z15))), some (.int (jI s)), some (.int (jI (z27 + z28))), some (.int (jI z30)), some (.int (jI 0))]) rfl ?_
                        refine w_iload rfl ?_
                        refine w_ieq (by omega) (fun _ => ?_) (fun h => absurd (by omega) h)
                        refine w_step rfl ?_
                        refine w_iload rfl ?_
                        refine w_goto ?_
                        refine w_step rfl ?_
                        refine w_istore (lv' := [some (.ref 68), some (.int (jI m)), some (.int (jI w)), some (.int (jI z3)), some (.int (jI z8)), some (.int (jI best)), some (.int (jI least)), some (.int (jI e)), some (.int (jI ((m - 1) - z15))), some (.int (jI s)), some (.int (jI (z27 + z28))), some (.int (jI z30)), some (.int (jI 0))]) rfl ?_
                        refine w_goto ?_
                        refine w_step rfl ?_
                        refine w_iinc (lv' := [some (.ref 68), some (.int (jI m)), some (.int (jI w)), some (.int (jI z3)), some (.int (jI z8)), some (.int (jI best)), some (.int (jI least)), some (.int (jI e)), some (.int (jI ((m - 1) - z15))), some (.int (jI (s + 1))), some (.int (jI (z27 + z28))), some (.int (jI z30)), some (.int (jI 0))]) kc_1 rfl rfl ?_
                        refine w_goto ?_
                        have hrj : RJt t t16 m e (s + 1) best least := by
                          first
                            | exact rj_n (by omega) i11_3 (by omega) i12_7 hly hmk (by omega)
                            | exact rj_b hm16 i11_3 (by omega) hn1 (by omega) i12_7 hbi rfl hXf (by omega) hly hmk (by omega) hcs rfl (by omega) (by omega)
                            | exact rj_x okc hm16 i11_3 (by omega) hn1 (by omega) i12_7 hbi rfl hXf (by omega) hly hmk (by omega) i12_8 hcs rfl (by omega) hG.1 hy1 (Or.inl ⟨by omega, ht99qq⟩)
                            | exact rj_x okc hm16 i11_3 (by omega) hn1 (by omega) i12_7 hbi rfl hXf (by omega) hly hmk (by omega) i12_8 hcs rfl (by omega) hG.1 hy1 (Or.inr ⟨by omega, rfl⟩)
                            | omega
                        exact ih12 _ best least (s + 1) (some (z27 + z28)) (some z30) (some 0) t16 ok16 fr16 wf16 (by omega) (by omega) (by omega) (by omega) (by omega) trivial (by omega) hrj (fun s p h1 h2 => by first | exact i12_8 s p h1 h2 | (rw [ht99qq, tA_uA, if_neg (by omega)]; exact i12_8 s p h1 h2)) (by omega) (by omega)
                      refine w_goto ?_
                      refine w_step rfl ?_
                      refine w_push kc_1 ?_
                      refine w_goto ?_
                      refine w_step rfl ?_
                      refine w_istore (lv' := [some (.ref 68), some (.int (jI m)), some (.int (jI w)), some (.int (jI z3)), some (.int (jI z8)), some (.int (jI best)), some (.int (jI least)), some (.int (jI e)), some (.int (jI ((m - 1) - z15))), some (.int (jI s)), some (.int (jI (z27 + z28))), some (.int (jI z30)), some (.int (jI 1))]) rfl ?_
                      refine w_iload rfl ?_
                      refine w_ieq (by omega) (fun h => absurd h (by omega)) (fun _ => ?_)
                      refine w_iload rfl ?_
                      refine w_goto ?_
                      refine w_step rfl ?_
                      refine w_istore (lv' := [some (.ref 68), some (.int (jI m)), some (.int (jI w)), some (.int (jI z3)), some (.int (jI z8)), some (.int (jI s)), some (.int (jI least)), some (.int (jI e)), some (.int (jI ((m - 1) - z15))), some (.int (jI s)), some (.int (jI (z27 + z28))), some (.int (jI z30)), some (.int (jI 1))]) rfl ?_
                      refine w_iload rfl ?_
                      refine w_ieq (by omega) (fun h => absurd h (by omega)) (fun _ => ?_)
                      refine w_iload rfl ?_
                      refine w_goto ?_
                      refine w_step rfl ?_
                      refine w_istore (lv' := [some (.ref 68), some (.int (jI m)), some (.int (jI w)), some (.int (jI z3)), some (.int (jI z8)), some (.int (jI s)), some (.int (jI (z27 + z28))), some (.int (jI e)), some (.int (jI ((m - 1) - z15))), some (.int (jI s)), some (.int (jI (z27 + z28))), some (.int (jI z30)), some (.int (jI 1))]) rfl ?_
                      refine w_goto ?_
                      refine w_step rfl ?_
                      refine w_iinc (lv' := [some (.ref 68), some (.int (jI m)), some (.int (jI w)), some (.int (jI z3)), some (.int (jI z8)), some (.int (jI s)), some (.int (jI (z27 + z28))), some (.int (jI e)), some (.int (jI ((m - 1) - z15))), some (.int (jI (s + 1))), some (.int (jI (z27 + z28))), some (.int (jI z30)), some (.int (jI 1))]) kc_1 rfl rfl ?_
                      refine w_goto ?_
                      have hrj : RJt t t16 m e (s + 1) s (z27 + z28) := by
                        first
                          | exact rj_n (by omega) i11_3 (by omega) i12_7 hly hmk (by omega)
                          | exact rj_b hm16 i11_3 (by omega) hn1 (by omega) i12_7 hbi rfl hXf (by omega) hly hmk (by omega) hcs rfl (by omega) (by omega)
                          | exact rj_x okc hm16 i11_3 (by omega) hn1 (by omega) i12_7 hbi rfl hXf (by omega) hly hmk (by omega) i12_8 hcs rfl (by omega) hG.1 hy1 (Or.inl ⟨by omega, ht99qq⟩)
                          | exact rj_x okc hm16 i11_3 (by omega) hn1 (by omega) i12_7 hbi rfl hXf (by omega) hly hmk (by omega) i12_8 hcs rfl (by omega) hG.1 hy1 (Or.inr ⟨by omega, rfl⟩)
                          | omega
                      exact ih12 _ s (z27 + z28) (s + 1) (some (z27 + z28)) (some z30) (some 1) t16 ok16 fr16 wf16 (by omega) (by omega) (by omega) (by omega) (by omega) trivial (by omega) hrj (fun s p h1 h2 => by first | exact i12_8 s p h1 h2 | (rw [ht99qq, tA_uA, if_neg (by omega)]; exact i12_8 s p h1 h2)) (by omega) (by omega)
                  exact key12 13 _ best least 0 o10 o11 o12 t11 ok11 fr11 wf11 (by omega) (by omega) (by omega) (by omega) (by omega) trivial (by omega) (rj_0 i11_6) i11_7 (by omega) (by omega)
              exact key11 4097 _ (-1) 0 0 none none none none none t9 ok9 fr9 wf9 (by omega) (by omega) (by omega) (by omega) (by omega) (by omega) (ri_0 (by omega) (fun a ha => i7_3 a (by omega))) i7_4 (by omega) (by omega)
            refine w_aload rfl ?_
            refine w_getR (g_68_5 _) ?_
            refine w_iload rfl ?_
            refine w_iload rfl ?_
            refine w_ine (by omega) (fun h42 => ?_) (fun h42 => ?_)
            · skip
              refine w_step rfl ?_
              refine w_push kc_m1 ?_
              refine w_goto ?_
              refine w_step rfl ?_
              refine w_iast (i := (e).toNat) (ai_72 _) rfl (by omega) (by omega) (ae_72 _) ok9 (by omega) (fun t43 ht43 ok43 => ?_)
              have fr43 := fr9.uA ht43 (by simp)
              have wf43 := wf9.uAo ht43 (by decide)
              refine w_iinc (lv' := [some (.ref 68), some (.int (jI m)), some (.int (jI w)), some (.int (jI z3)), some (.int (jI z8)), some (.int (jI (e + 1))), none, none, none, none, none, none, none]) kc_1 rfl rfl ?_
              refine w_goto ?_
              exact ih7 _ (e + 1) t43 ok43 fr43 wf43 (by omega) (by omega) (by omega) (fun a h => by rw [ht43, tA_uA]; split <;> first | exact i7_3 a (by omega) | (rename_i h9; first | rw [if_pos (by omega)] | rw [if_neg (by omega)])) (fun s p h1 h2 => by rw [ht43, tA_uA, if_neg (by omega)]; exact i7_4 s p h1 h2) (by omega) (by omega)
            refine w_push kc_0 ?_
            refine w_goto ?_
            refine w_step rfl ?_
            refine w_iast (i := (e).toNat) (ai_72 _) rfl (by omega) (by omega) (ae_72 _) ok9 (by omega) (fun t44 ht44 ok44 => ?_)
            have fr44 := fr9.uA ht44 (by simp)
            have wf44 := wf9.uAo ht44 (by decide)
            refine w_iinc (lv' := [some (.ref 68), some (.int (jI m)), some (.int (jI w)), some (.int (jI z3)), some (.int (jI z8)), some (.int (jI (e + 1))), none, none, none, none, none, none, none]) kc_1 rfl rfl ?_
            refine w_goto ?_
            exact ih7 _ (e + 1) t44 ok44 fr44 wf44 (by omega) (by omega) (by omega) (fun a h => by rw [ht44, tA_uA]; split <;> first | exact i7_3 a (by omega) | (rename_i h9; first | rw [if_pos (by omega)] | rw [if_neg (by omega)])) (fun s p h1 h2 => by rw [ht44, tA_uA, if_neg (by omega)]; exact i7_4 s p h1 h2) (by omega) (by omega)
        exact key7 4097 _ 0 t4 ok4 fr4 wf4 (by omega) (by omega) (by omega) (fun a h => by omega) hco (by omega) (by omega)
      refine w_push kc_0 ?_
      refine w_istore (lv' := [some (.ref 68), some (.int (jI m)), some (.int (jI w)), some (.int (jI z3)), some (.int (jI s)), some (.int (jI 0)), none, none, none, none, none, none, none]) rfl ?_
      refine w_goto ?_
      have key4 : ∀ (n4 M4 : Nat) (p : Int) (t45 : TS), OK t45 → Fr [(81, 100), (82, 100), (72, 100), (73, 100)] t t45 → WF t45 69 → (0 ≤ p) → (p ≤ m) → (∀ q p : Nat, (q : Int) < s → (p : Int) < m → tA t45 73 (12 * q + p) = cRm t q p) → (∀ p2 : Nat, (p2 : Int) < p → tA t45 73 (12 * s.toNat + p2) = cRm t s.toNat p2) → 6 - p < (n4 : Int) → 10 * n4 + (200 * n3 + BIG) ≤ M4 → Rn (bX9_best (EX FU (d + 5))) M4 4 [some (.ref 68), some (.int (jI m)), some (.int (jI w)), some (.int (jI z3)), some (.int (jI s)), some (.int (jI p)), none, none, none, none, none, none, none] [] (mk t45) (PI (fun z t' => OK t' ∧ Fr [(81, 100), (82, 100), (72, 100), (73, 100)] t t' ∧ (((¬ (1 ≤ m ∧ m ≤ 6 ∧ 0 ≤ w ∧ w ≤ 1)) ∧ z = (-1000000001)) ∨ ((1 ≤ m ∧ m ≤ 6 ∧ 0 ≤ w ∧ w ≤ 1) ∧ (BAp (LRm t m) (cRm t) (tA t 69 1).toNat m.toNat w z))))) := by
        intro n4
        induction n4 with
        | zero => intro M4 p t45 ok45 fr45 wf45 i4_0 i4_1 i4_2 i4_3 v4 f4; exfalso; omega
        | succ n4 ih4 =>
          intro M4 p t45 ok45 fr45 wf45 i4_0 i4_1 i4_2 i4_3 v4 f4
          obtain ⟨M4, rfl⟩ : ∃ m, M4 = m + 10 := ⟨M4 - 10, by omega⟩
          have frd4 := fr45
          refine w_step rfl ?_
          refine w_iload rfl ?_
          refine w_iload rfl ?_
          refine w_cge (by omega) (fun h46 => ?_) (fun h46 => ?_)
          · skip
            refine w_step rfl ?_
            refine w_iinc (lv' := [some (.ref 68), some (.int (jI m)), some (.int (jI w)), some (.int (jI z3)), some (.int (jI (s + 1))), some (.int (jI p)), none, none, none, none, none, none, none]) kc_1 rfl rfl ?_
            refine w_goto ?_
            exact ih3 _ (s + 1) (some p) t45 ok45 fr45 wf45 (by omega) (by omega) (by omega) (fun q p h1 h2 => (Int.lt_or_eq_of_le (show (q : Int) ≤ s by omega)).elim (fun h3 => i4_2 q p h3 h2) (fun h3 => by rw [show q = s.toNat by omega]; exact i4_3 p (by omega))) (by omega) (by omega)
          refine w_aload rfl ?_
          refine w_getR (g_68_6 _) ?_
          refine w_push kc_12 ?_
          refine w_iload rfl ?_
          refine w_mul ?_
          refine w_iload rfl ?_
          refine w_add ?_
          refine w_aload rfl ?_
          refine w_iload rfl ?_
          refine w_iload rfl ?_
          refine w_callV2I (oj_68 _).choose_spec rfl (e_X9_leastAt ok45 wf45 (by intro k hk; have e := fr45.2.1 69 (by simp); rw [e] at hk ⊢; exact q1 k hk) (by omega) (by omega) (by omega) (by omega)) ?_
          rintro z47 t47 ⟨ok47, fq47, hp47_0, hp47_1, hp47_2⟩
          have fr47 := fr45.then fq47 (by simp)
          have wf47 := wf45.fr fq47 (by simp)
          have hla : z47 = cRm t s.toNat p.toNat := by
            rw [hp47_2, OA_fr frd4 (by simp)]
            rfl
          refine w_iast (i := (((12 * s) + p)).toNat) (ai_73 _) rfl (by omega) (by omega) (ae_73 _) ok47 (by omega) (fun t48 ht48 ok48 => ?_)
          have fr48 := fr47.uA ht48 (by simp)
          have wf48 := wf47.uAo ht48 (by decide)
          refine w_iinc (lv' := [some (.ref 68), some (.int (jI m)), some (.int (jI w)), some (.int (jI z3)), some (.int (jI s)), some (.int (jI (p + 1))), none, none, none, none, none, none, none]) kc_1 rfl rfl ?_
          refine w_goto ?_
          exact ih4 _ (p + 1) t48 ok48 fr48 wf48 (by omega) (by omega) (fun q p2 h1 h2 => by rw [ht48, tA_uA, if_neg (by omega), fq47.2.1 73 (by simp)]; exact i4_2 q p2 h1 h2) (fun p2 h => by rw [ht48, tA_uA]; split <;> first | (rename_i h9; rw [hla]; congr 1; omega) | (rw [fq47.2.1 73 (by simp)]; exact i4_3 p2 (by omega))) (by omega) (by omega)
      exact key4 7 _ 0 t4 ok4 fr4 wf4 (by omega) (by omega) i3_3 (fun p2 h => by omega) (by omega) (by omega)
  exact key3 13 _ 0 none t ok fr q0 (by omega) (by omega) (by omega) (fun q p h _ => by omega) (by omega) (by omega)
