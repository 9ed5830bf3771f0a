section
/-! ===== strings: length, charAt, indexOf ===== -/
theorem ab_leq_rfl {α : Type} {f : α → α → Bool} : ∀ {l : List α}, (∀ a ∈ l, f a a = true) → ab_leq f l l = true
  | [], _ => rfl
  | a :: l, h => by
    simp only [ab_leq, Bool.and_eq_true]
    exact ⟨h a List.mem_cons_self, ab_leq_rfl (fun b hb => h b (List.mem_cons_of_mem _ hb))⟩
theorem ieq_rfl (xs : List Int32) : ab_leq ab_ieq xs xs = true := ab_leq_rfl (fun a _ => by simp [ab_ieq])
theorem oeq_rfl (xs : List (Option Nat)) : ab_leq ab_oeq xs xs = true := ab_leq_rfl (fun a _ => by cases a <;> simp [ab_oeq])
theorem ceq_i (t : Nat) (xs : List Int32) : ab_ceq (.inr (.inl (t, xs))) (.inr (.inl (t, xs))) = true := by simp [ab_ceq, ieq_rfl]
theorem ceq_r (t : Nat) (xs : List (Option Nat)) : ab_ceq (.inr (.inr (t, xs))) (.inr (.inr (t, xs))) = true := by simp [ab_ceq, oeq_rfl]
theorem ceq_o (c : Nat) (fs : List Value) : ab_ceq (.inl (c, fs)) (.inl (c, fs)) = ab_leq ab_veq fs fs := by simp [ab_ceq]
theorem veq_i (x : Int32) : ab_veq (.int x) (.int x) = true := by simp [ab_veq]
theorem veq_r (x : Nat) : ab_veq (.ref x) (.ref x) = true := by simp [ab_veq]
theorem quad_ceq : ∀ (D : List TX) (p : Nat), ∀ c ∈ quad p D, ab_ceq c c = true
  | [], _, c, h => by simp [quad] at h
  | x :: r, p, c, h => by
    unfold quad at h
    simp only [List.mem_cons] at h
    rcases h with rfl | rfl | rfl | rfl | h
    · simp [ceq_o, ab_leq, veq_i, veq_r]
    · exact ceq_i _ _
    · exact ceq_i _ _
    · exact ceq_i _ _
    · exact quad_ceq r (p + 4) c h
theorem weq_mk (t : TS) : ab_weq (mk t) (mk t) = true := by
  unfold ab_weq mk mkW
  simp only [ab_leq, ceq_i, ceq_r, ceq_o, veq_i, veq_r, Bool.and_self, Bool.true_and]
  exact ab_leq_rfl (quad_ceq (tD t) 92)
theorem c_J252 {d : Nat} {i n : Int32} {v : Value} (w : ab_W) (hv : v.category = 1) (h0 : ¬ i < 0) (h1 : i < n) : EX FU (d + 1) 252 [.int i, .int n, v] w = some (some (.int i), w) := by
  refine EX_run (Bk := bJ3_checkIndex_8e157) (nL := 3) rfl rfl (by simp [hv]; exact ⟨rfl, rfl⟩) (Nat.le_of_ble_eq_true rfl) ?_
  show ab_run _ 1000000 0 [some (.int i), some (.int n), some v] [] w = _
  refine rn_step rfl ?_
  refine rb_iload rfl ?_
  refine rb_ilt (fun h => absurd h h0) (fun _ => ?_)
  refine rb_iload rfl ?_
  refine rb_iload rfl ?_
  refine rb_clt (fun _ => ?_) (fun h => absurd h1 h)
  refine rn_step rfl ?_
  refine rb_iload rfl ?_
  exact rb_ret rfl rfl
theorem c_J235 {d : Nat} {i n : Int32} (t : TS) (h0 : ¬ i < 0) (h1 : i < n) : EX FU (d + 2) 235 [.int i, .int n] (mk t) = some (none, mk t) := by
  refine EX_run (Bk := bJ0_checkIndex_df160) (nL := 2) rfl rfl rfl (Nat.le_of_ble_eq_true rfl) ?_
  show ab_run _ 1000000 0 [some (.int i), some (.int n)] [] (mk t) = _
  refine rn_step rfl ?_
  refine rb_iload rfl ?_
  refine rb_iload rfl ?_
  have key : ∀ v : Value, v.category = 1 → (o_callS (EX FU (d + 1)) 252 3 <| o_pop <| o_ret none) [some (.int i), some (.int n)] [v, .int n, .int i] (mk t) = some (.inr (none, mk t)) := by
    intro v hv
    have e : (List.take 3 [v, .int n, .int i]).reverse = [.int i, .int n, v] := rfl
    have e2 : List.drop 3 [v, .int n, .int i] = [] := rfl
    unfold o_callS
    rw [e, e2, if_pos ⟨Nat.le_refl 3, rfl⟩, c_J252 (mk t) hv h0 h1]
    rfl
  unfold Rb
  rw [lock_eq]
  unfold o_getq
  rw [key .null rfl, key (.ref (1000000 + 20)) rfl]
  have hq : ab_req (.inr (none, mk t)) (.inr (none, mk t)) = true := by
    unfold ab_req
    simp [weq_mk]
    rfl
  dsimp only
  rw [if_pos hq]
section XR
variable {B : List ab_K} {N : Nat} {k : ab_K} {lv : ab_L} {st : List Value} {w w' : ab_W} {r : Option Value × ab_W} {i q : Nat} {cal : ab_F}
theorem rb_sval (hs : ab_isS q = true) (h : Rb B N k lv (.ref (Nat.add q 10) :: st) w r) : Rb B N (o_sval k) lv (.ref q :: st) w r := by
  simp only [Rb, o_sval, hs, if_true]; exact h
theorem rb_sblen {x : Int32} (hs : ab_isB q = true) (hx : Int32.ofNat (ab_slen.getD (Nat.sub q 1000012) 0) = x) (h : Rb B N k lv (.int x :: st) w r) : Rb B N (o_sblen k) lv (.ref q :: st) w r := by
  subst hx
  simp only [Rb, o_sblen, hs, if_true]; exact h
theorem rb_sbal {i x : Int32} (hs : ab_isB q = true ∧ ¬ i < 0 ∧ i.toNatClampNeg < ab_slen.getD (Nat.sub q 1000012) 0) (hx : (ab_sbyt.getD (Nat.sub q 1000012) []).getD i.toNatClampNeg 0 = x) (h : Rb B N k lv (.int x :: st) w r) : Rb B N (o_sbal k) lv (.int i :: .ref q :: st) w r := by
  subst hx
  unfold Rb o_sbal
  dsimp only
  rw [if_pos hs]
  exact h
theorem rb_callX0 {v : Value} (hs : ab_isS q = true) (hcl : ab_cl st = true) (hc : cal i [.ref q] w = some (some v, w')) (h : Rb B N k lv (v :: st) w' r) : Rb B N (o_callX cal i 0 k) lv (.ref q :: st) w r := by
  have e : (List.take 0 (Value.ref q :: st)).reverse = [] := rfl
  have e1 : List.drop 0 (Value.ref q :: st) = .ref q :: st := rfl
  unfold Rb o_callX
  rw [e1, e]
  dsimp only
  rw [if_pos ⟨hs, hcl⟩, hc]
  exact h
theorem rb_callX1 {v v1 : Value} (hs : ab_isS q = true) (hcl : ab_cl st = true) (hc : cal i [.ref q, v1] w = some (some v, w')) (h : Rb B N k lv (v :: st) w' r) : Rb B N (o_callX cal i 1 k) lv (v1 :: .ref q :: st) w r := by
  have e : (List.take 1 (v1 :: Value.ref q :: st)).reverse = [v1] := rfl
  have e1 : List.drop 1 (v1 :: Value.ref q :: st) = .ref q :: st := rfl
  unfold Rb o_callX
  rw [e1, e]
  dsimp only
  rw [if_pos ⟨hs, hcl⟩, hc]
  exact h
theorem w_callX0I {P : Option Value → ab_W → Prop} {Q : Int → TS → Prop} (hs : ab_isS q = true) (hcl : ab_cl st = true) (hc : CI cal i [.ref q] w Q) (h : ∀ z t, Q z t → Rp B N k lv (.int (jI z) :: st) (mk t) P) : Rp B N (o_callX cal i 0 k) lv (.ref q :: st) w P := by
  obtain ⟨z, t, e, hq⟩ := hc
  exact Rp_map (fun _ => rb_callX0 hs hcl e) (h z t hq)
theorem w_callX1I {P : Option Value → ab_W → Prop} {Q : Int → TS → Prop} {v1 : Value} (hs : ab_isS q = true) (hcl : ab_cl st = true) (hc : CI cal i [.ref q, v1] w Q) (h : ∀ z t, Q z t → Rp B N k lv (.int (jI z) :: st) (mk t) P) : Rp B N (o_callX cal i 1 k) lv (v1 :: .ref q :: st) w P := by
  obtain ⟨z, t, e, hq⟩ := hc
  exact Rp_map (fun _ => rb_callX1 hs hcl e) (h z t hq)
end XR
theorem c_len3 {d : Nat} (t : TS) : CI (EX FU (d + 3)) 229 [.ref (1000000 + 3)] (mk t) (fun z t' => t = t' ∧ z = 4) := ⟨4, t, rfl, rfl, rfl⟩
theorem c_ch3_0 {d : Nat} (t : TS) : EX FU (d + 5) 230 [.ref (1000000 + 3), .int (jI 0)] (mk t) = some (some (.int (jI 100)), mk t) := by
  refine EX_run (Bk := bJ0_charAt_5068e) (nL := 2) rfl rfl rfl (Nat.le_of_ble_eq_true rfl) ?_
  show ab_run _ 1000000 0 [some (.ref (1000000 + 3)), some (.int (jI 0))] [] (mk t) = _
  refine rn_step rfl ?_
  refine rb_aload rfl ?_
  refine rb_callX0 (v := .int 1) rfl rfl rfl ?_
  refine rb_ieq (fun h => absurd h (by decide)) (fun _ => ?_)
  refine rb_aload rfl ?_
  have hc : EX FU (d + 4) 237 [.ref 1000013, .int (jI 0)] (mk t) = some (some (.int (jI 100)), mk t) := by
    refine EX_run (Bk := bJ1_charAt_3b067) (nL := 2) rfl rfl rfl (Nat.le_of_ble_eq_true rfl) ?_
    show ab_run _ 1000000 0 [some (.ref 1000013), some (.int (jI 0))] [] (mk t) = _
    refine rn_step rfl ?_
    refine rb_iload rfl ?_
    refine rb_aload rfl ?_
    refine rb_sblen (x := 4) rfl (by decide) ?_
    refine rb_callS2v rfl (c_J235 (d := d + 1) t (by decide) (by decide)) ?_
    refine rb_aload rfl ?_
    refine rb_iload rfl ?_
    refine rb_sbal (x := 100) (by decide) (by decide) ?_
    refine rb_push ?_
    refine rb_binL (z := 100) (by decide) ?_
    refine rb_unL (z := 100) (by decide) ?_
    exact rb_ret rfl rfl
  refine rb_sval rfl ?_
  refine rb_iload rfl ?_
  refine rb_callS2 rfl hc ?_
  exact rb_ret rfl rfl
theorem c_ch3_1 {d : Nat} (t : TS) : EX FU (d + 5) 230 [.ref (1000000 + 3), .int (jI 1)] (mk t) = some (some (.int (jI 97)), mk t) := by
  refine EX_run (Bk := bJ0_charAt_5068e) (nL := 2) rfl rfl rfl (Nat.le_of_ble_eq_true rfl) ?_
  show ab_run _ 1000000 0 [some (.ref (1000000 + 3)), some (.int (jI 1))] [] (mk t) = _
  refine rn_step rfl ?_
  refine rb_aload rfl ?_
  refine rb_callX0 (v := .int 1) rfl rfl rfl ?_
  refine rb_ieq (fun h => absurd h (by decide)) (fun _ => ?_)
  refine rb_aload rfl ?_
  have hc : EX FU (d + 4) 237 [.ref 1000013, .int (jI 1)] (mk t) = some (some (.int (jI 97)), mk t) := by
    refine EX_run (Bk := bJ1_charAt_3b067) (nL := 2) rfl rfl rfl (Nat.le_of_ble_eq_true rfl) ?_
    show ab_run _ 1000000 0 [some (.ref 1000013), some (.int (jI 1))] [] (mk t) = _
    refine rn_step rfl ?_
    refine rb_iload rfl ?_
    refine rb_aload rfl ?_
    refine rb_sblen (x := 4) rfl (by decide) ?_
    refine rb_callS2v rfl (c_J235 (d := d + 1) t (by decide) (by decide)) ?_
    refine rb_aload rfl ?_
    refine rb_iload rfl ?_
    refine rb_sbal (x := 97) (by decide) (by decide) ?_
    refine rb_push ?_
    refine rb_binL (z := 97) (by decide) ?_
    refine rb_unL (z := 97) (by decide) ?_
    exact rb_ret rfl rfl
  refine rb_sval rfl ?_
  refine rb_iload rfl ?_
  refine rb_callS2 rfl hc ?_
  exact rb_ret rfl rfl
theorem c_ch3_2 {d : Nat} (t : TS) : EX FU (d + 5) 230 [.ref (1000000 + 3), .int (jI 2)] (mk t) = some (some (.int (jI 114)), mk t) := by
  refine EX_run (Bk := bJ0_charAt_5068e) (nL := 2) rfl rfl rfl (Nat.le_of_ble_eq_true rfl) ?_
  show ab_run _ 1000000 0 [some (.ref (1000000 + 3)), some (.int (jI 2))] [] (mk t) = _
  refine rn_step rfl ?_
  refine rb_aload rfl ?_
  refine rb_callX0 (v := .int 1) rfl rfl rfl ?_
  refine rb_ieq (fun h => absurd h (by decide)) (fun _ => ?_)
  refine rb_aload rfl ?_
  have hc : EX FU (d + 4) 237 [.ref 1000013, .int (jI 2)] (mk t) = some (some (.int (jI 114)), mk t) := by
    refine EX_run (Bk := bJ1_charAt_3b067) (nL := 2) rfl rfl rfl (Nat.le_of_ble_eq_true rfl) ?_
    show ab_run _ 1000000 0 [some (.ref 1000013), some (.int (jI 2))] [] (mk t) = _
    refine rn_step rfl ?_
    refine rb_iload rfl ?_
    refine rb_aload rfl ?_
    refine rb_sblen (x := 4) rfl (by decide) ?_
    refine rb_callS2v rfl (c_J235 (d := d + 1) t (by decide) (by decide)) ?_
    refine rb_aload rfl ?_
    refine rb_iload rfl ?_
    refine rb_sbal (x := 114) (by decide) (by decide) ?_
    refine rb_push ?_
    refine rb_binL (z := 114) (by decide) ?_
    refine rb_unL (z := 114) (by decide) ?_
    exact rb_ret rfl rfl
  refine rb_sval rfl ?_
  refine rb_iload rfl ?_
  refine rb_callS2 rfl hc ?_
  exact rb_ret rfl rfl
theorem c_ch3_3 {d : Nat} (t : TS) : EX FU (d + 5) 230 [.ref (1000000 + 3), .int (jI 3)] (mk t) = some (some (.int (jI 107)), mk t) := by
  refine EX_run (Bk := bJ0_charAt_5068e) (nL := 2) rfl rfl rfl (Nat.le_of_ble_eq_true rfl) ?_
  show ab_run _ 1000000 0 [some (.ref (1000000 + 3)), some (.int (jI 3))] [] (mk t) = _
  refine rn_step rfl ?_
  refine rb_aload rfl ?_
  refine rb_callX0 (v := .int 1) rfl rfl rfl ?_
  refine rb_ieq (fun h => absurd h (by decide)) (fun _ => ?_)
  refine rb_aload rfl ?_
  have hc : EX FU (d + 4) 237 [.ref 1000013, .int (jI 3)] (mk t) = some (some (.int (jI 107)), mk t) := by
    refine EX_run (Bk := bJ1_charAt_3b067) (nL := 2) rfl rfl rfl (Nat.le_of_ble_eq_true rfl) ?_
    show ab_run _ 1000000 0 [some (.ref 1000013), some (.int (jI 3))] [] (mk t) = _
    refine rn_step rfl ?_
    refine rb_iload rfl ?_
    refine rb_aload rfl ?_
    refine rb_sblen (x := 4) rfl (by decide) ?_
    refine rb_callS2v rfl (c_J235 (d := d + 1) t (by decide) (by decide)) ?_
    refine rb_aload rfl ?_
    refine rb_iload rfl ?_
    refine rb_sbal (x := 107) (by decide) (by decide) ?_
    refine rb_push ?_
    refine rb_binL (z := 107) (by decide) ?_
    refine rb_unL (z := 107) (by decide) ?_
    exact rb_ret rfl rfl
  refine rb_sval rfl ?_
  refine rb_iload rfl ?_
  refine rb_callS2 rfl hc ?_
  exact rb_ret rfl rfl
theorem c_len4 {d : Nat} (t : TS) : CI (EX FU (d + 3)) 229 [.ref (1000000 + 4)] (mk t) (fun z t' => t = t' ∧ z = 3) := ⟨3, t, rfl, rfl, rfl⟩
theorem c_ch4_0 {d : Nat} (t : TS) : EX FU (d + 5) 230 [.ref (1000000 + 4), .int (jI 0)] (mk t) = some (some (.int (jI 102)), mk t) := by
  refine EX_run (Bk := bJ0_charAt_5068e) (nL := 2) rfl rfl rfl (Nat.le_of_ble_eq_true rfl) ?_
  show ab_run _ 1000000 0 [some (.ref (1000000 + 4)), some (.int (jI 0))] [] (mk t) = _
  refine rn_step rfl ?_
  refine rb_aload rfl ?_
  refine rb_callX0 (v := .int 1) rfl rfl rfl ?_
  refine rb_ieq (fun h => absurd h (by decide)) (fun _ => ?_)
  refine rb_aload rfl ?_
  have hc : EX FU (d + 4) 237 [.ref 1000014, .int (jI 0)] (mk t) = some (some (.int (jI 102)), mk t) := by
    refine EX_run (Bk := bJ1_charAt_3b067) (nL := 2) rfl rfl rfl (Nat.le_of_ble_eq_true rfl) ?_
    show ab_run _ 1000000 0 [some (.ref 1000014), some (.int (jI 0))] [] (mk t) = _
    refine rn_step rfl ?_
    refine rb_iload rfl ?_
    refine rb_aload rfl ?_
    refine rb_sblen (x := 3) rfl (by decide) ?_
    refine rb_callS2v rfl (c_J235 (d := d + 1) t (by decide) (by decide)) ?_
    refine rb_aload rfl ?_
    refine rb_iload rfl ?_
    refine rb_sbal (x := 102) (by decide) (by decide) ?_
    refine rb_push ?_
    refine rb_binL (z := 102) (by decide) ?_
    refine rb_unL (z := 102) (by decide) ?_
    exact rb_ret rfl rfl
  refine rb_sval rfl ?_
  refine rb_iload rfl ?_
  refine rb_callS2 rfl hc ?_
  exact rb_ret rfl rfl
theorem c_ch4_1 {d : Nat} (t : TS) : EX FU (d + 5) 230 [.ref (1000000 + 4), .int (jI 1)] (mk t) = some (some (.int (jI 101)), mk t) := by
  refine EX_run (Bk := bJ0_charAt_5068e) (nL := 2) rfl rfl rfl (Nat.le_of_ble_eq_true rfl) ?_
  show ab_run _ 1000000 0 [some (.ref (1000000 + 4)), some (.int (jI 1))] [] (mk t) = _
  refine rn_step rfl ?_
  refine rb_aload rfl ?_
  refine rb_callX0 (v := .int 1) rfl rfl rfl ?_
  refine rb_ieq (fun h => absurd h (by decide)) (fun _ => ?_)
  refine rb_aload rfl ?_
  have hc : EX FU (d + 4) 237 [.ref 1000014, .int (jI 1)] (mk t) = some (some (.int (jI 101)), mk t) := by
    refine EX_run (Bk := bJ1_charAt_3b067) (nL := 2) rfl rfl rfl (Nat.le_of_ble_eq_true rfl) ?_
    show ab_run _ 1000000 0 [some (.ref 1000014), some (.int (jI 1))] [] (mk t) = _
    refine rn_step rfl ?_
    refine rb_iload rfl ?_
    refine rb_aload rfl ?_
    refine rb_sblen (x := 3) rfl (by decide) ?_
    refine rb_callS2v rfl (c_J235 (d := d + 1) t (by decide) (by decide)) ?_
    refine rb_aload rfl ?_
    refine rb_iload rfl ?_
    refine rb_sbal (x := 101) (by decide) (by decide) ?_
    refine rb_push ?_
    refine rb_binL (z := 101) (by decide) ?_
    refine rb_unL (z := 101) (by decide) ?_
    exact rb_ret rfl rfl
  refine rb_sval rfl ?_
  refine rb_iload rfl ?_
  refine rb_callS2 rfl hc ?_
  exact rb_ret rfl rfl
theorem c_ch4_2 {d : Nat} (t : TS) : EX FU (d + 5) 230 [.ref (1000000 + 4), .int (jI 2)] (mk t) = some (some (.int (jI 101)), mk t) := by
  refine EX_run (Bk := bJ0_charAt_5068e) (nL := 2) rfl rfl rfl (Nat.le_of_ble_eq_true rfl) ?_
  show ab_run _ 1000000 0 [some (.ref (1000000 + 4)), some (.int (jI 2))] [] (mk t) = _
  refine rn_step rfl ?_
  refine rb_aload rfl ?_
  refine rb_callX0 (v := .int 1) rfl rfl rfl ?_
  refine rb_ieq (fun h => absurd h (by decide)) (fun _ => ?_)
  refine rb_aload rfl ?_
  have hc : EX FU (d + 4) 237 [.ref 1000014, .int (jI 2)] (mk t) = some (some (.int (jI 101)), mk t) := by
    refine EX_run (Bk := bJ1_charAt_3b067) (nL := 2) rfl rfl rfl (Nat.le_of_ble_eq_true rfl) ?_
    show ab_run _ 1000000 0 [some (.ref 1000014), some (.int (jI 2))] [] (mk t) = _
    refine rn_step rfl ?_
    refine rb_iload rfl ?_
    refine rb_aload rfl ?_
    refine rb_sblen (x := 3) rfl (by decide) ?_
    refine rb_callS2v rfl (c_J235 (d := d + 1) t (by decide) (by decide)) ?_
    refine rb_aload rfl ?_
    refine rb_iload rfl ?_
    refine rb_sbal (x := 101) (by decide) (by decide) ?_
    refine rb_push ?_
    refine rb_binL (z := 101) (by decide) ?_
    refine rb_unL (z := 101) (by decide) ?_
    exact rb_ret rfl rfl
  refine rb_sval rfl ?_
  refine rb_iload rfl ?_
  refine rb_callS2 rfl hc ?_
  exact rb_ret rfl rfl
theorem c_len5 {d : Nat} (t : TS) : CI (EX FU (d + 3)) 229 [.ref (1000000 + 5)] (mk t) (fun z t' => t = t' ∧ z = 4) := ⟨4, t, rfl, rfl, rfl⟩
theorem c_ch5_0 {d : Nat} (t : TS) : EX FU (d + 5) 230 [.ref (1000000 + 5), .int (jI 0)] (mk t) = some (some (.int (jI 102)), mk t) := by
  refine EX_run (Bk := bJ0_charAt_5068e) (nL := 2) rfl rfl rfl (Nat.le_of_ble_eq_true rfl) ?_
  show ab_run _ 1000000 0 [some (.ref (1000000 + 5)), some (.int (jI 0))] [] (mk t) = _
  refine rn_step rfl ?_
  refine rb_aload rfl ?_
  refine rb_callX0 (v := .int 1) rfl rfl rfl ?_
  refine rb_ieq (fun h => absurd h (by decide)) (fun _ => ?_)
  refine rb_aload rfl ?_
  have hc : EX FU (d + 4) 237 [.ref 1000015, .int (jI 0)] (mk t) = some (some (.int (jI 102)), mk t) := by
    refine EX_run (Bk := bJ1_charAt_3b067) (nL := 2) rfl rfl rfl (Nat.le_of_ble_eq_true rfl) ?_
    show ab_run _ 1000000 0 [some (.ref 1000015), some (.int (jI 0))] [] (mk t) = _
    refine rn_step rfl ?_
    refine rb_iload rfl ?_
    refine rb_aload rfl ?_
    refine rb_sblen (x := 4) rfl (by decide) ?_
    refine rb_callS2v rfl (c_J235 (d := d + 1) t (by decide) (by decide)) ?_
    refine rb_aload rfl ?_
    refine rb_iload rfl ?_
    refine rb_sbal (x := 102) (by decide) (by decide) ?_
    refine rb_push ?_
    refine rb_binL (z := 102) (by decide) ?_
    refine rb_unL (z := 102) (by decide) ?_
    exact rb_ret rfl rfl
  refine rb_sval rfl ?_
  refine rb_iload rfl ?_
  refine rb_callS2 rfl hc ?_
  exact rb_ret rfl rfl
theorem c_ch5_1 {d : Nat} (t : TS) : EX FU (d + 5) 230 [.ref (1000000 + 5), .int (jI 1)] (mk t) = some (some (.int (jI 105)), mk t) := by
  refine EX_run (Bk := bJ0_charAt_5068e) (nL := 2) rfl rfl rfl (Nat.le_of_ble_eq_true rfl) ?_
  show ab_run _ 1000000 0 [some (.ref (1000000 + 5)), some (.int (jI 1))] [] (mk t) = _
  refine rn_step rfl ?_
  refine rb_aload rfl ?_
  refine rb_callX0 (v := .int 1) rfl rfl rfl ?_
  refine rb_ieq (fun h => absurd h (by decide)) (fun _ => ?_)
  refine rb_aload rfl ?_
  have hc : EX FU (d + 4) 237 [.ref 1000015, .int (jI 1)] (mk t) = some (some (.int (jI 105)), mk t) := by
    refine EX_run (Bk := bJ1_charAt_3b067) (nL := 2) rfl rfl rfl (Nat.le_of_ble_eq_true rfl) ?_
    show ab_run _ 1000000 0 [some (.ref 1000015), some (.int (jI 1))] [] (mk t) = _
    refine rn_step rfl ?_
    refine rb_iload rfl ?_
    refine rb_aload rfl ?_
    refine rb_sblen (x := 4) rfl (by decide) ?_
    refine rb_callS2v rfl (c_J235 (d := d + 1) t (by decide) (by decide)) ?_
    refine rb_aload rfl ?_
    refine rb_iload rfl ?_
    refine rb_sbal (x := 105) (by decide) (by decide) ?_
    refine rb_push ?_
    refine rb_binL (z := 105) (by decide) ?_
    refine rb_unL (z := 105) (by decide) ?_
    exact rb_ret rfl rfl
  refine rb_sval rfl ?_
  refine rb_iload rfl ?_
  refine rb_callS2 rfl hc ?_
  exact rb_ret rfl rfl
theorem c_ch5_2 {d : Nat} (t : TS) : EX FU (d + 5) 230 [.ref (1000000 + 5), .int (jI 2)] (mk t) = some (some (.int (jI 110)), mk t) := by
  refine EX_run (Bk := bJ0_charAt_5068e) (nL := 2) rfl rfl rfl (Nat.le_of_ble_eq_true rfl) ?_
  show ab_run _ 1000000 0 [some (.ref (1000000 + 5)), some (.int (jI 2))] [] (mk t) = _
  refine rn_step rfl ?_
  refine rb_aload rfl ?_
  refine rb_callX0 (v := .int 1) rfl rfl rfl ?_
  refine rb_ieq (fun h => absurd h (by decide)) (fun _ => ?_)
  refine rb_aload rfl ?_
  have hc : EX FU (d + 4) 237 [.ref 1000015, .int (jI 2)] (mk t) = some (some (.int (jI 110)), mk t) := by
    refine EX_run (Bk := bJ1_charAt_3b067) (nL := 2) rfl rfl rfl (Nat.le_of_ble_eq_true rfl) ?_
    show ab_run _ 1000000 0 [some (.ref 1000015), some (.int (jI 2))] [] (mk t) = _
    refine rn_step rfl ?_
    refine rb_iload rfl ?_
    refine rb_aload rfl ?_
    refine rb_sblen (x := 4) rfl (by decide) ?_
    refine rb_callS2v rfl (c_J235 (d := d + 1) t (by decide) (by decide)) ?_
    refine rb_aload rfl ?_
    refine rb_iload rfl ?_
    refine rb_sbal (x := 110) (by decide) (by decide) ?_
    refine rb_push ?_
    refine rb_binL (z := 110) (by decide) ?_
    refine rb_unL (z := 110) (by decide) ?_
    exact rb_ret rfl rfl
  refine rb_sval rfl ?_
  refine rb_iload rfl ?_
  refine rb_callS2 rfl hc ?_
  exact rb_ret rfl rfl
theorem c_ch5_3 {d : Nat} (t : TS) : EX FU (d + 5) 230 [.ref (1000000 + 5), .int (jI 3)] (mk t) = some (some (.int (jI 101)), mk t) := by
  refine EX_run (Bk := bJ0_charAt_5068e) (nL := 2) rfl rfl rfl (Nat.le_of_ble_eq_true rfl) ?_
  show ab_run _ 1000000 0 [some (.ref (1000000 + 5)), some (.int (jI 3))] [] (mk t) = _
  refine rn_step rfl ?_
  refine rb_aload rfl ?_
  refine rb_callX0 (v := .int 1) rfl rfl rfl ?_
  refine rb_ieq (fun h => absurd h (by decide)) (fun _ => ?_)
  refine rb_aload rfl ?_
  have hc : EX FU (d + 4) 237 [.ref 1000015, .int (jI 3)] (mk t) = some (some (.int (jI 101)), mk t) := by
    refine EX_run (Bk := bJ1_charAt_3b067) (nL := 2) rfl rfl rfl (Nat.le_of_ble_eq_true rfl) ?_
    show ab_run _ 1000000 0 [some (.ref 1000015), some (.int (jI 3))] [] (mk t) = _
    refine rn_step rfl ?_
    refine rb_iload rfl ?_
    refine rb_aload rfl ?_
    refine rb_sblen (x := 4) rfl (by decide) ?_
    refine rb_callS2v rfl (c_J235 (d := d + 1) t (by decide) (by decide)) ?_
    refine rb_aload rfl ?_
    refine rb_iload rfl ?_
    refine rb_sbal (x := 101) (by decide) (by decide) ?_
    refine rb_push ?_
    refine rb_binL (z := 101) (by decide) ?_
    refine rb_unL (z := 101) (by decide) ?_
    exact rb_ret rfl rfl
  refine rb_sval rfl ?_
  refine rb_iload rfl ?_
  refine rb_callS2 rfl hc ?_
  exact rb_ret rfl rfl
set_option maxRecDepth 100000 in
theorem c_ix6 {d : Nat} (t : TS) {c : Int} (hc : 97 ≤ c ∧ c ≤ 122) : CI (EX FU (d + 6)) 231 [.ref (1000000 + 6), .int (jI c)] (mk t) (fun z t' => t = t' ∧ z = nmF 0 c) := by
  have h : c = 97 ∨ c = 98 ∨ c = 99 ∨ c = 100 ∨ c = 101 ∨ c = 102 ∨ c = 103 ∨ c = 104 ∨ c = 105 ∨ c = 106 ∨ c = 107 ∨ c = 108 ∨ c = 109 ∨ c = 110 ∨ c = 111 ∨ c = 112 ∨ c = 113 ∨ c = 114 ∨ c = 115 ∨ c = 116 ∨ c = 117 ∨ c = 118 ∨ c = 119 ∨ c = 120 ∨ c = 121 ∨ c = 122 := by omega
  rcases h with rfl | rfl | rfl | rfl | rfl | rfl | rfl | rfl | rfl | rfl | rfl | rfl | rfl | rfl | rfl | rfl | rfl | rfl | rfl | rfl | rfl | rfl | rfl | rfl | rfl | rfl
  · exact ⟨-1, t, rfl, rfl, rfl⟩
  · exact ⟨-1, t, rfl, rfl, rfl⟩
  · exact ⟨-1, t, rfl, rfl, rfl⟩
  · exact ⟨-1, t, rfl, rfl, rfl⟩
  · exact ⟨-1, t, rfl, rfl, rfl⟩
  · exact ⟨-1, t, rfl, rfl, rfl⟩
  · exact ⟨-1, t, rfl, rfl, rfl⟩
  · exact ⟨-1, t, rfl, rfl, rfl⟩
  · exact ⟨-1, t, rfl, rfl, rfl⟩
  · exact ⟨-1, t, rfl, rfl, rfl⟩
  · exact ⟨2, t, rfl, rfl, rfl⟩
  · exact ⟨-1, t, rfl, rfl, rfl⟩
  · exact ⟨-1, t, rfl, rfl, rfl⟩
  · exact ⟨-1, t, rfl, rfl, rfl⟩
  · exact ⟨-1, t, rfl, rfl, rfl⟩
  · exact ⟨-1, t, rfl, rfl, rfl⟩
  · exact ⟨-1, t, rfl, rfl, rfl⟩
  · exact ⟨1, t, rfl, rfl, rfl⟩
  · exact ⟨0, t, rfl, rfl, rfl⟩
  · exact ⟨-1, t, rfl, rfl, rfl⟩
  · exact ⟨-1, t, rfl, rfl, rfl⟩
  · exact ⟨-1, t, rfl, rfl, rfl⟩
  · exact ⟨-1, t, rfl, rfl, rfl⟩
  · exact ⟨-1, t, rfl, rfl, rfl⟩
  · exact ⟨-1, t, rfl, rfl, rfl⟩
  · exact ⟨-1, t, rfl, rfl, rfl⟩
set_option maxRecDepth 100000 in
theorem c_ix7 {d : Nat} (t : TS) {c : Int} (hc : 97 ≤ c ∧ c ≤ 122) : CI (EX FU (d + 6)) 231 [.ref (1000000 + 7), .int (jI c)] (mk t) (fun z t' => t = t' ∧ z = nmF 1 c) := by
  have h : c = 97 ∨ c = 98 ∨ c = 99 ∨ c = 100 ∨ c = 101 ∨ c = 102 ∨ c = 103 ∨ c = 104 ∨ c = 105 ∨ c = 106 ∨ c = 107 ∨ c = 108 ∨ c = 109 ∨ c = 110 ∨ c = 111 ∨ c = 112 ∨ c = 113 ∨ c = 114 ∨ c = 115 ∨ c = 116 ∨ c = 117 ∨ c = 118 ∨ c = 119 ∨ c = 120 ∨ c = 121 ∨ c = 122 := by omega
  rcases h with rfl | rfl | rfl | rfl | rfl | rfl | rfl | rfl | rfl | rfl | rfl | rfl | rfl | rfl | rfl | rfl | rfl | rfl | rfl | rfl | rfl | rfl | rfl | rfl | rfl | rfl
  · exact ⟨-1, t, rfl, rfl, rfl⟩
  · exact ⟨-1, t, rfl, rfl, rfl⟩
  · exact ⟨-1, t, rfl, rfl, rfl⟩
  · exact ⟨-1, t, rfl, rfl, rfl⟩
  · exact ⟨-1, t, rfl, rfl, rfl⟩
  · exact ⟨-1, t, rfl, rfl, rfl⟩
  · exact ⟨-1, t, rfl, rfl, rfl⟩
  · exact ⟨-1, t, rfl, rfl, rfl⟩
  · exact ⟨-1, t, rfl, rfl, rfl⟩
  · exact ⟨-1, t, rfl, rfl, rfl⟩
  · exact ⟨-1, t, rfl, rfl, rfl⟩
  · exact ⟨-1, t, rfl, rfl, rfl⟩
  · exact ⟨1, t, rfl, rfl, rfl⟩
  · exact ⟨-1, t, rfl, rfl, rfl⟩
  · exact ⟨-1, t, rfl, rfl, rfl⟩
  · exact ⟨0, t, rfl, rfl, rfl⟩
  · exact ⟨-1, t, rfl, rfl, rfl⟩
  · exact ⟨-1, t, rfl, rfl, rfl⟩
  · exact ⟨-1, t, rfl, rfl, rfl⟩
  · exact ⟨-1, t, rfl, rfl, rfl⟩
  · exact ⟨-1, t, rfl, rfl, rfl⟩
  · exact ⟨-1, t, rfl, rfl, rfl⟩
  · exact ⟨-1, t, rfl, rfl, rfl⟩
  · exact ⟨-1, t, rfl, rfl, rfl⟩
  · exact ⟨-1, t, rfl, rfl, rfl⟩
  · exact ⟨-1, t, rfl, rfl, rfl⟩
set_option maxRecDepth 100000 in
theorem c_ix8 {d : Nat} (t : TS) {c : Int} (hc : 97 ≤ c ∧ c ≤ 122) : CI (EX FU (d + 6)) 231 [.ref (1000000 + 8), .int (jI c)] (mk t) (fun z t' => t = t' ∧ z = nmF 2 c) := by
  have h : c = 97 ∨ c = 98 ∨ c = 99 ∨ c = 100 ∨ c = 101 ∨ c = 102 ∨ c = 103 ∨ c = 104 ∨ c = 105 ∨ c = 106 ∨ c = 107 ∨ c = 108 ∨ c = 109 ∨ c = 110 ∨ c = 111 ∨ c = 112 ∨ c = 113 ∨ c = 114 ∨ c = 115 ∨ c = 116 ∨ c = 117 ∨ c = 118 ∨ c = 119 ∨ c = 120 ∨ c = 121 ∨ c = 122 := by omega
  rcases h with rfl | rfl | rfl | rfl | rfl | rfl | rfl | rfl | rfl | rfl | rfl | rfl | rfl | rfl | rfl | rfl | rfl | rfl | rfl | rfl | rfl | rfl | rfl | rfl | rfl | rfl
  · exact ⟨-1, t, rfl, rfl, rfl⟩
  · exact ⟨-1, t, rfl, rfl, rfl⟩
  · exact ⟨-1, t, rfl, rfl, rfl⟩
  · exact ⟨-1, t, rfl, rfl, rfl⟩
  · exact ⟨-1, t, rfl, rfl, rfl⟩
  · exact ⟨-1, t, rfl, rfl, rfl⟩
  · exact ⟨-1, t, rfl, rfl, rfl⟩
  · exact ⟨-1, t, rfl, rfl, rfl⟩
  · exact ⟨-1, t, rfl, rfl, rfl⟩
  · exact ⟨-1, t, rfl, rfl, rfl⟩
  · exact ⟨-1, t, rfl, rfl, rfl⟩
  · exact ⟨0, t, rfl, rfl, rfl⟩
  · exact ⟨-1, t, rfl, rfl, rfl⟩
  · exact ⟨-1, t, rfl, rfl, rfl⟩
  · exact ⟨-1, t, rfl, rfl, rfl⟩
  · exact ⟨-1, t, rfl, rfl, rfl⟩
  · exact ⟨-1, t, rfl, rfl, rfl⟩
  · exact ⟨1, t, rfl, rfl, rfl⟩
  · exact ⟨-1, t, rfl, rfl, rfl⟩
  · exact ⟨2, t, rfl, rfl, rfl⟩
  · exact ⟨-1, t, rfl, rfl, rfl⟩
  · exact ⟨-1, t, rfl, rfl, rfl⟩
  · exact ⟨-1, t, rfl, rfl, rfl⟩
  · exact ⟨-1, t, rfl, rfl, rfl⟩
  · exact ⟨-1, t, rfl, rfl, rfl⟩
  · exact ⟨-1, t, rfl, rfl, rfl⟩
theorem i2c_0 : ∀ n : Nat, n < 256 → fU (fun x => (x.toUInt32 % 65536).toInt32) (n : Int) = (n : Int) := by decide +kernel
theorem i2c_id {x z : Int} (hx : 0 ≤ x ∧ x ≤ 255) (h : z = fU (fun x => (x.toUInt32 % 65536).toInt32) x) : z = x := by
  obtain ⟨n, rfl⟩ := Int.eq_ofNat_of_zero_le hx.1
  rw [h, i2c_0 n (by omega)]
end
section
def LTp (t : TS) : Prop := tI t 39 7 = 1 → (97 ≤ tA t 38 (tI t 39 8).toNat ∧ tA t 38 (tI t 39 8).toNat ≤ 122)
end
section
theorem isS_nm {q : Nat} (h : q = 1000006 ∨ q = 1000007 ∨ q = 1000008) : ab_isS q = true := by
  rcases h with rfl | rfl | rfl <;> rfl
theorem c_ixN {d q : Nat} (t : TS) {c : Int} (hq : q = 1000006 ∨ q = 1000007 ∨ q = 1000008) (hc : 97 ≤ c ∧ c ≤ 122) : CI (EX FU (d + 6)) 231 [.ref q, .int (jI c)] (mk t) (fun z t' => t = t' ∧ z = nmF ((q : Int) - 1000006) c ∧ -1 ≤ z ∧ z ≤ 2) := by
  have hb : ∀ k, -1 ≤ nmF k c ∧ nmF k c ≤ 2 := by
    intro k
    unfold nmF
    (repeat' split) <;> omega
  rcases hq with rfl | rfl | rfl
  · exact (c_ix6 t hc).mono (fun z t' h => ⟨h.1, h.2, by rw [h.2]; exact (hb 0).1, by rw [h.2]; exact (hb 0).2⟩)
  · exact (c_ix7 t hc).mono (fun z t' h => ⟨h.1, h.2, by rw [h.2]; exact (hb 1).1, by rw [h.2]; exact (hb 1).2⟩)
  · exact (c_ix8 t hc).mono (fun z t' h => ⟨h.1, h.2, by rw [h.2]; exact (hb 2).1, by rw [h.2]; exact (hb 2).2⟩)
end
section
/-! ===== a text's object is made ===== -/
theorem quad_app : ∀ (D : List TX) (p : Nat) (x : TX), quad p (D ++ [x]) = quad p D ++ quad (p + 4 * D.length) [x]
  | [], p, x => by simp [quad]
  | y :: r, p, x => by
    have ih := quad_app r (p + 4) x
    have e : p + 4 + 4 * r.length = p + 4 * (y :: r).length := by simp; omega
    rw [e] at ih
    show _ :: _ :: _ :: _ :: quad (p + 4) (r ++ [x]) = _
    rw [ih]
    rfl
theorem quad_len : ∀ (D : List TX) (p : Nat), (quad p D).length = 4 * D.length
  | [], _ => rfl
  | y :: r, p => by
    have ih := quad_len r (p + 4)
    show (quad (p + 4) r).length + 1 + 1 + 1 + 1 = 4 * (r.length + 1)
    omega
theorem mk_len (t : TS) : (mk t).length = 92 + 4 * (tD t).length := by
  have h : (mk t).length = (quad 92 (tD t)).length + 92 := rfl
  rw [h, quad_len]
  omega
set_option maxRecDepth 100000 in
theorem mk_app (t : TS) (x : TX) : mk (uD t (tD t ++ [x])) = mk t ++ quad (mk t).length [x] := by
  have h : mk (uD t (tD t ++ [x])) = mkW (sD (sW t) (quad 92 (tD t ++ [x]))) := rfl
  rw [h, quad_app, mk_len]
  rfl
theorem ia_app {w l : ab_W} {a g : Nat} {xs : List Int32} (h : ab_ia w a g = some xs) : ab_ia (w ++ l) a g = some xs := by
  unfold ab_ia at h ⊢
  have ha : a < w.length := by
    rcases Nat.lt_or_ge a w.length with q | q
    · exact q
    · rw [List.getElem?_eq_none q] at h; cases h
  rw [List.getElem?_append_left ha]
  exact h
theorem gf_app {w l : ab_W} {a ci f : Nat} {v : Value} (h : ab_gf w a ci f = some v) : ab_gf (w ++ l) a ci f = some v := by
  unfold ab_gf at h ⊢
  have ha : a < w.length := by
    rcases Nat.lt_or_ge a w.length with q | q
    · exact q
    · rw [List.getElem?_eq_none q] at h; cases h
  rw [List.getElem?_append_left ha]
  exact h
theorem ia_last (w : ab_W) (g : Nat) (xs : List Int32) (l : ab_W) : ab_ia (w ++ .inr (.inl (g, xs)) :: l) w.length g = some xs := by
  unfold ab_ia
  rw [List.getElem?_append_right (Nat.le_refl _), Nat.sub_self]
  simp
theorem pf_app (w : ab_W) {ci f : Nat} {fs : List Value} {v : Value} (hf : f < fs.length) (l : ab_W) : ab_pf (w ++ .inl (ci, fs) :: l) w.length ci f v = some (w ++ .inl (ci, fs.set f v) :: l) := by
  unfold ab_pf
  rw [List.getElem?_append_right (Nat.le_refl _), Nat.sub_self]
  simp [hf]
theorem c_copyOf {d : Nat} {w : ab_W} {a : Nat} {xs : List Int32} {n : Int} (ha : ab_ia w a 0 = some xs) (h0 : 0 ≤ n ∧ n < xs.length) (hl : xs.length ≤ 5000) (hw : w.length < 900000) : EX FU (d + 1) 251 [.ref a, .int (jI n)] w = some (some (.ref w.length), w ++ [.inr (.inl (0, xs.take n.toNat))]) := by
  have hr : jr n := ⟨by omega, by omega⟩
  have hr2 : jr (xs.length : Int) := ⟨by omega, by omega⟩
  have hc : (jI n).toNatClampNeg = n.toNat := jI_clamp h0.1 hr
  refine EX_run (Bk := bJ7_copyOf_59c91) (nL := 3) rfl rfl rfl (Nat.le_of_ble_eq_true rfl) ?_
  show ab_run _ 1000000 0 [some (.ref a), some (.int (jI n)), none] [] w = _
  refine rn_step rfl ?_
  refine rb_iload rfl ?_
  refine rb_aload rfl ?_
  refine rb_alenL (z := jI (xs.length : Int)) ha (jI_nat _).symm ?_
  refine rj_cne hr hr2 (fun _ => ?_) (fun h => absurd (by omega) h)
  refine rn_step rfl ?_
  refine rb_iload rfl ?_
  refine rb_newi (jI_nn h0.1 hr) (by omega) (by rw [hc]; omega) ?_
  rw [hc]
  refine rb_astore (lv' := [some (.ref a), some (.int (jI n)), some (.ref w.length)]) rfl ?_
  refine rb_aload rfl ?_
  refine rb_push ?_
  refine rb_aload rfl ?_
  refine rb_push ?_
  refine rb_aload rfl ?_
  refine rb_alenL (z := jI (xs.length : Int)) (ia_app ha) (jI_nat _).symm ?_
  refine rb_iload rfl ?_
  refine rb_m2L (z := jI n) rfl (by rw [if_pos ((jI_lt hr hr2).mpr h0.2)]) ?_
  refine rb_acopy (w' := w ++ [.inr (.inl (0, xs.take n.toNat))]) (ia_app ha) (ia_last w 0 _ []) (by decide) (by decide) (jI_nn h0.1 hr) ?_ ?_ rfl ?_ ?_
  · rw [hc]; show 0 + n.toNat ≤ xs.length; omega
  · rw [hc, List.length_replicate]; show 0 + n.toNat ≤ n.toNat; omega
  · rw [hc]
    have e : ab_cp xs (List.replicate n.toNat 0) (0 : Int32).toNatClampNeg (0 : Int32).toNatClampNeg n.toNat = xs.take n.toNat := by
      show (List.replicate n.toNat 0).take 0 ++ ((xs.drop 0).take n.toNat ++ (List.replicate n.toNat (0 : Int32)).drop (0 + n.toNat)) = _
      simp
    rw [e]
    simp
  · refine rb_aload rfl ?_
    exact rb_ret rfl rfl
theorem c_Tinit {d : Nat} {W : ab_W} {k ops : Int} {r1 r2 : Nat} {A1 A2 : ab_C} (h : 0 ≤ ops ∧ ops ≤ 96) (hW : W.length < 900000) : EX FU (d + 1) 62 [.ref W.length, .int (jI k), .int (jI ops), .ref r1, .ref r2] (W ++ [.inl (5, [.int 0, .int 0, .null, .null, .null]), A1, A2]) = some (none, W ++ [.inl (5, [.int (jI k), .int (jI ops), .ref r1, .ref r2, .ref (W.length + 3)]), A1, A2, .inr (.inl (0, List.replicate ops.toNat 0))]) := by
  have hr : jr ops := ⟨by omega, by omega⟩
  have hc : (jI ops).toNatClampNeg = ops.toNat := jI_clamp h.1 hr
  refine EX_run (Bk := bX6_init) (nL := 5) rfl rfl rfl (Nat.le_of_ble_eq_true rfl) ?_
  show ab_run _ 1000000 0 [some (.ref W.length), some (.int (jI k)), some (.int (jI ops)), some (.ref r1), some (.ref r2)] [] _ = _
  refine rn_step rfl ?_
  refine rb_aload rfl ?_
  refine rb_oinit rfl ?_
  refine rb_aload rfl ?_
  refine rb_iload rfl ?_
  refine rb_putI (pf_app W (by simp) _) ?_
  refine rb_aload rfl ?_
  refine rb_iload rfl ?_
  refine rb_putI (pf_app W (by simp) _) ?_
  refine rb_aload rfl ?_
  refine rb_aload rfl ?_
  refine rb_putA (pf_app W (by simp) _) ?_
  refine rb_aload rfl ?_
  refine rb_aload rfl ?_
  refine rb_putA (pf_app W (by simp) _) ?_
  refine rb_aload rfl ?_
  refine rb_iload rfl ?_
  refine rb_newi (jI_nn h.1 hr) (by simp; omega) (by rw [hc]; omega) ?_
  rw [hc, show ∀ x : ab_C, (W ++ [x, A1, A2]).length = W.length + 3 from fun x => by simp, List.append_assoc]
  refine rb_putA (pf_app W (by simp) _) ?_
  exact rb_retv rfl
def FrD (S : List (Nat × Nat)) (t t' : TS) : Prop := (∀ c f, (c, f) ∉ S → tI t' c f = tI t c f) ∧ (∀ c, (c, 100) ∉ S → ∀ i, tA t' c i = tA t c i) ∧ (∀ c, (c, 101) ∉ S → ∀ i, tT t' c i = tT t c i)
theorem Fr.toD {S : List (Nat × Nat)} {t u : TS} (h : Fr S t u) : FrD S t u := ⟨h.1, h.2.1, h.2.2.1⟩
theorem FrD.then {S S' : List (Nat × Nat)} {t u v : TS} (h : FrD S t u) (k : FrD S' u v) (m : ∀ q ∈ S', q ∈ S) : FrD S t v := ⟨fun c f q => (k.1 c f (fun e => q (m _ e))).trans (h.1 c f q), fun c q i => (k.2.1 c (fun e => q (m _ e)) i).trans (h.2.1 c q i), fun c q i => (k.2.2 c (fun e => q (m _ e)) i).trans (h.2.2 c q i)⟩
theorem FrD.uD {S : List (Nat × Nat)} {t u : TS} (h : FrD S t u) (l : List TX) : FrD S t (uD u l) := h
theorem OK.app {t : TS} (ok : OK t) {x : TX} (hx : TXok x) : OK (uD t (tD t ++ [x])) := by
  refine ⟨ok.1, ok.2.1, fun c i q hq => ?_, fun y hy => ?_⟩
  · obtain ⟨j, h1, h2⟩ := ok.2.2.1 c i q hq
    refine ⟨j, ?_, h2⟩
    show j < (tD t ++ [x]).length
    rw [List.length_append]
    exact Nat.lt_add_right _ h1
  · rcases List.mem_append.mp (show y ∈ tD t ++ [x] from hy) with h | h
    · exact ok.2.2.2 y h
    · rw [List.mem_singleton.mp h]; exact hx
end
