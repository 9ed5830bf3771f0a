/-! ===== the first state ===== -/
def lt0 (i : Nat) : Int := if i = 0 then 100 else if i = 1 then 97 else if i = 2 then 114 else if i = 3 then 107 else if i = 4 then 102 else if i = 5 then 101 else if i = 6 then 101 else if i = 7 then 102 else if i = 8 then 105 else if i = 9 then 110 else if i = 10 then 101 else 97
theorem lt0_b (i : Nat) : 97 ≤ lt0 i ∧ lt0 i ≤ 122 := by
  unfold lt0
  (repeat' split) <;> decide
def t0A (c i : Nat) : Int := if c = 76 then lt0 i else if c = 77 then (kR i).1 else if c = 69 then (if i = 0 then 1 else if 5 ≤ i ∧ i < 29 then 50 else 0) else if c = 8 ∨ c = 19 ∨ c = 31 then 50 else if c = 7 ∨ c = 18 ∨ c = 30 ∨ c = 11 ∨ c = 22 ∨ c = 34 ∨ c = 83 then -1 else 0
def t0I (c f : Nat) : Int := if f = 14 ∧ (c = 1 ∨ c = 12 ∨ c = 24) then 1 else if f = 1 ∧ (c = 45 ∨ c = 47 ∨ c = 49 ∨ c = 51 ∨ c = 54 ∨ c = 57 ∨ c = 60 ∨ c = 63 ∨ c = 66) then -1 else if c = 68 ∧ f = 4 then -1 else 0
def t0 : TS := (t0I, t0A, fun _ _ => none, 1000002, [])
theorem kR_b (i : Nat) : (kR i).1 ≤ (kR i).2 ∧ 0 ≤ (kR i).1 ∧ (kR i).1 ≤ 11 := by
  unfold kR
  (repeat' split) <;> decide
theorem t0I_b (c f : Nat) : -1 ≤ t0I c f ∧ t0I c f ≤ 1 := by
  unfold t0I
  (repeat' split) <;> decide
theorem t0A_b (c i : Nat) : -1 ≤ t0A c i ∧ t0A c i ≤ 122 := by
  have h1 := lt0_b i
  have h2 := kR_b i
  unfold t0A
  (repeat' split) <;> omega
theorem nR_0 (i : Nat) : (nR i).1 ≤ 0 ∧ 0 ≤ (nR i).2 := by
  unfold nR
  (repeat' split) <;> decide
theorem nR_69 (i : Nat) : (nR i).1 ≤ t0A 69 i ∧ t0A 69 i ≤ (nR i).2 := by
  have e : t0A 69 i = (if i = 0 then 1 else if 5 ≤ i ∧ i < 29 then 50 else 0) := rfl
  rw [e]
  split
  · rename_i h; subst h; decide
  · split
    · rename_i h
      unfold nR
      rw [if_neg (by omega), if_pos (by omega)]
      decide
    · exact nR_0 i
theorem OK_t0 : OK t0 := by
  refine ⟨fun c f => ?_, fun c i => ?_, fun c i q h => (by cases h), fun x h => (by cases h)⟩
  · have b := t0I_b c f
    show (FR c f).1 ≤ t0I c f ∧ t0I c f ≤ (FR c f).2
    unfold FR
    split
    all_goals first | decide | (show -2147483648 ≤ t0I c f ∧ t0I c f ≤ 2147483647; omega)
  · have b := t0A_b c i
    have h1 := lt0_b i
    have h2 := kR_b i
    have h3 := nR_69 i
    have h4 := nR_0 i
    show (AR c i).1 ≤ t0A c i ∧ t0A c i ≤ (AR c i).2
    unfold AR
    split
    all_goals first | exact (show (_ : Int) ≤ 0 ∧ (0 : Int) ≤ _ by decide) | exact (show (_ : Int) ≤ -1 ∧ (-1 : Int) ≤ _ by decide) | exact (show (_ : Int) ≤ 50 ∧ (50 : Int) ≤ _ by decide) | exact h1 | exact ⟨Int.le_refl _, h2.1⟩ | exact h3 | exact h4 | (show -2147483648 ≤ t0A c i ∧ t0A c i ≤ 2147483647; omega)
theorem INV_t0 : INV 0 t0 := by
  refine ⟨OK_t0, fun k hk => ?_, fun k hk => ?_, by decide, by decide, fun i _ h => ?_, ⟨⟨rfl, rfl, rfl, rfl⟩, fun i hi => ?_, fun i hi => ?_⟩, fun h => absurd rfl h, fun k hk => ?_, fun s hs => ?_, ⟨rfl, rfl, rfl, fun i hi => ?_⟩, Nat.le_refl _⟩
  · exfalso
    have e : tA t0 69 4 = 0 := rfl
    omega
  · exfalso
    have e : tA t0 70 4 = 0 := rfl
    omega
  · exfalso
    have e : tA t0 86 i = 0 := rfl
    omega
  · have e : tA t0 69 (5 + i) = (if 5 + i = 0 then 1 else if 5 ≤ 5 + i ∧ 5 + i < 29 then 50 else 0) := rfl
    rw [e, if_neg (by omega), if_pos (by omega)]
    rfl
  · exfalso
    have e : tA t0 69 1 = 0 := rfl
    omega
  · have hk2 : k = 0 ∨ k = 1 ∨ k = 2 ∨ k = 3 := by omega
    rcases hk2 with rfl | rfl | rfl | rfl <;> exact ⟨rfl, rfl, fun i _ => rfl⟩
  · have hs2 : s = 0 ∨ s = 1 ∨ s = 2 ∨ s = 3 ∨ s = 4 := by omega
    have e : tA t0 86 s = 0 := rfl
    refine ⟨?_, fun h => (by omega), fun h => (by omega), fun h => (by omega)⟩
    rcases hs2 with rfl | rfl | rfl | rfl | rfl <;> rfl
  · exfalso
    have e : tI t0 0 8 = 0 := rfl
    omega
def ck_law0 : Bool := match bL_law_0 [] (EX FU 100) (ab_ent [.ref 1000001] 4) [] [] with
  | some (.inl (b, lv, st, w)) => b == 1 && (ab_leq ab_lveq lv [some (.ref 1000001), some (.ref 0), some (.ref 68), some (.int 0)] && (ab_leq ab_veq st [] && ab_weq w (mk t0)))
  | _ => false
set_option maxRecDepth 1000000 in
theorem ck_law0_ok : ck_law0 = true := by decide +kernel
theorem law0 (xs : List Int32) : bL_law_0 xs (EX FU 100) [some (.ref 1000001), none, none, none] [] [] = some (.inl (1, [some (.ref 1000001), some (.ref 0), some (.ref 68), some (.int (jI 0))], [], mk t0)) := by
  have h := ck_law0_ok
  unfold ck_law0 at h
  show bL_law_0 [] (EX FU 100) (ab_ent [.ref 1000001] 4) [] [] = _
  revert h
  cases bL_law_0 [] (EX FU 100) (ab_ent [.ref 1000001] 4) [] [] with
  | none => intro h; cases h
  | some q =>
    match q with
    | .inr _ => intro h; cases h
    | .inl (b, lv, st, w) =>
      intro h
      simp only [Bool.and_eq_true, beq_iff_eq] at h
      obtain ⟨h1, h2, h3, h4⟩ := h
      rw [h1, ab_leq_eq ab_lveq_eq h2, ab_leq_eq (fun _ _ => ab_veq_eq) h3, ab_weq_eq h4]
      rfl
/-! ===== how large a world is ===== -/
theorem quad_tot : ∀ (D : List TX) (p : Nat), (∀ x ∈ D, TXok x) → ab_tot (quad p D) ≤ 291 * D.length
  | [], _, _ => Nat.le_refl _
  | y :: r, p, h => by
    have ih := quad_tot r (p + 4) (fun x hx => h x (List.mem_cons_of_mem _ hx))
    obtain ⟨_, _, h1, h2, h3⟩ := h y List.mem_cons_self
    have e : ab_tot (quad p (y :: r)) = 5 + (y.2.2.1.length + (y.2.2.2.1.length + (y.2.2.2.2.length + ab_tot (quad (p + 4) r)))) := by
      unfold ab_tot
      simp [quad, ab_sz]
    rw [e, List.length_cons]
    omega
theorem okL_mk (t : TS) : okL (sW t) := ⟨fun c _ => Or.inl (row_len _ _), by simp [sW, rowT], by simp [sW, rowT], by simp [sW, rowT]⟩
theorem mk_tot {t : TS} (ok : OK t) : ab_tot (mk t) ≤ 10882 + 291 * (tD t).length := by
  have h := (okL_tot (okL_mk t)).2
  have q := quad_tot (tD t) 92 ok.2.2.2
  show ab_tot (mkW (sW t)) ≤ _
  rw [h]
  exact Nat.add_le_add_left q _
