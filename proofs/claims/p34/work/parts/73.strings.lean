/-! ===== strings: length, charAt, indexOf ===== -/
theorem ab_leq_rfl {α : Type} {f : α → α → Bool} : ∀ {l : List α}, (∀ a ∈ l, f a a = true) → ab_leq f l l = true
  | [], _ => rfl
  | a :: l, h => by
    simp only [ab_leq, Bool.and_eq_true]
    exact ⟨h a List.mem_cons_self, ab_leq_rfl (fun b hb => h b (List.mem_cons_of_mem _ hb))⟩
theorem ieq_rfl (xs : List Int32) : ab_leq ab_ieq xs xs = true := ab_leq_rfl (fun a _ => by simp [ab_ieq])
theorem oeq_rfl (xs : List (Option Nat)) : ab_leq ab_oeq xs xs = true := ab_leq_rfl (fun a _ => by cases a <;> simp [ab_oeq])
theorem ceq_i (t : Nat) (xs : List Int32) : ab_ceq (.inr (.inl (t, xs))) (.inr (.inl (t, xs))) = true := by simp [ab_ceq, ieq_rfl]
theorem ceq_r (t : Nat) (xs : List (Option Nat)) : ab_ceq (.inr (.inr (t, xs))) (.inr (.inr (t, xs))) = true := by simp [ab_ceq, oeq_rfl]
theorem ceq_o (c : Nat) (fs : List Value) : ab_ceq (.inl (c, fs)) (.inl (c, fs)) = ab_leq ab_veq fs fs := by simp [ab_ceq]
theorem veq_i (x : Int32) : ab_veq (.int x) (.int x) = true := by simp [ab_veq]
theorem veq_r (x : Nat) : ab_veq (.ref x) (.ref x) = true := by simp [ab_veq]
theorem quad_ceq : ∀ (D : List TX) (p : Nat), ∀ c ∈ quad p D, ab_ceq c c = true
  | [], _, c, h => by simp [quad] at h
  | x :: r, p, c, h => by
    unfold quad at h
    simp only [List.mem_cons] at h
    rcases h with rfl | rfl | rfl | rfl | h
    · simp [ceq_o, ab_leq, veq_i, veq_r]
    · exact ceq_i _ _
    · exact ceq_i _ _
    · exact ceq_i _ _
    · exact quad_ceq r (p + 4) c h
theorem weq_mk (t : TS) : ab_weq (mk t) (mk t) = true := by
  unfold ab_weq mk mkW
  simp only [ab_leq, ceq_i, ceq_r, ceq_o, veq_i, veq_r, Bool.and_self, Bool.true_and]
  exact ab_leq_rfl (quad_ceq (tD t) 92)
theorem c_J252 {d : Nat} {i n : Int32} {v : Value} (w : ab_W) (hv : v.category = 1) (h0 : ¬ i < 0) (h1 : i < n) : EX FU (d + 1) 252 [.int i, .int n, v] w = some (some (.int i), w) := by
  refine EX_run (Bk := bJ3_checkIndex_8e157) (nL := 3) rfl rfl (by simp [hv]; exact ⟨rfl, rfl⟩) (Nat.le_of_ble_eq_true rfl) ?_
  show ab_run _ 1000000 0 [some (.int i), some (.int n), some v] [] w = _
  refine rn_step rfl ?_
  refine rb_iload rfl ?_
  refine rb_ilt (fun h => absurd h h0) (fun _ => ?_)
  refine rb_iload rfl ?_
  refine rb_iload rfl ?_
  refine rb_clt (fun _ => ?_) (fun h => absurd h1 h)
  refine rn_step rfl ?_
  refine rb_iload rfl ?_
  exact rb_ret rfl rfl
theorem c_J235 {d : Nat} {i n : Int32} (t : TS) (h0 : ¬ i < 0) (h1 : i < n) : EX FU (d + 2) 235 [.int i, .int n] (mk t) = some (none, mk t) := by
  refine EX_run (Bk := bJ0_checkIndex_df160) (nL := 2) rfl rfl rfl (Nat.le_of_ble_eq_true rfl) ?_
  show ab_run _ 1000000 0 [some (.int i), some (.int n)] [] (mk t) = _
  refine rn_step rfl ?_
  refine rb_iload rfl ?_
  refine rb_iload rfl ?_
  have key : ∀ v : Value, v.category = 1 → (o_callS (EX FU (d + 1)) 252 3 <| o_pop <| o_ret none) [some (.int i), some (.int n)] [v, .int n, .int i] (mk t) = some (.inr (none, mk t)) := by
    intro v hv
    have e : (List.take 3 [v, .int n, .int i]).reverse = [.int i, .int n, v] := rfl
    have e2 : List.drop 3 [v, .int n, .int i] = [] := rfl
    unfold o_callS
    rw [e, e2, if_pos ⟨Nat.le_refl 3, rfl⟩, c_J252 (mk t) hv h0 h1]
    rfl
  unfold Rb
  rw [lock_eq]
  unfold o_getq
  rw [key .null rfl, key (.ref (1000000 + 20)) rfl]
  have hq : ab_req (.inr (none, mk t)) (.inr (none, mk t)) = true := by
    unfold ab_req
    simp [weq_mk]
    rfl
  dsimp only
  rw [if_pos hq]
section XR
variable {B : List ab_K} {N : Nat} {k : ab_K} {lv : ab_L} {st : List Value} {w w' : ab_W} {r : Option Value × ab_W} {i q : Nat} {cal : ab_F}
theorem rb_sval (hs : ab_isS q = true) (h : Rb B N k lv (.ref (Nat.add q 10) :: st) w r) : Rb B N (o_sval k) lv (.ref q :: st) w r := by
  simp only [Rb, o_sval, hs, if_true]; exact h
theorem rb_sblen {x : Int32} (hs : ab_isB q = true) (hx : Int32.ofNat (ab_slen.getD (Nat.sub q 1000012) 0) = x) (h : Rb B N k lv (.int x :: st) w r) : Rb B N (o_sblen k) lv (.ref q :: st) w r := by
  subst hx
  simp only [Rb, o_sblen, hs, if_true]; exact h
theorem rb_sbal {i x : Int32} (hs : ab_isB q = true ∧ ¬ i < 0 ∧ i.toNatClampNeg < ab_slen.getD (Nat.sub q 1000012) 0) (hx : (ab_sbyt.getD (Nat.sub q 1000012) []).getD i.toNatClampNeg 0 = x) (h : Rb B N k lv (.int x :: st) w r) : Rb B N (o_sbal k) lv (.int i :: .ref q :: st) w r := by
  subst hx
  unfold Rb o_sbal
  dsimp only
  rw [if_pos hs]
  exact h
theorem rb_callX0 {v : Value} (hs : ab_isS q = true) (hcl : ab_cl st = true) (hc : cal i [.ref q] w = some (some v, w')) (h : Rb B N k lv (v :: st) w' r) : Rb B N (o_callX cal i 0 k) lv (.ref q :: st) w r := by
  have e : (List.take 0 (Value.ref q :: st)).reverse = [] := rfl
  have e1 : List.drop 0 (Value.ref q :: st) = .ref q :: st := rfl
  unfold Rb o_callX
  rw [e1, e]
  dsimp only
  rw [if_pos ⟨hs, hcl⟩, hc]
  exact h
theorem rb_callX1 {v v1 : Value} (hs : ab_isS q = true) (hcl : ab_cl st = true) (hc : cal i [.ref q, v1] w = some (some v, w')) (h : Rb B N k lv (v :: st) w' r) : Rb B N (o_callX cal i 1 k) lv (v1 :: .ref q :: st) w r := by
  have e : (List.take 1 (v1 :: Value.ref q :: st)).reverse = [v1] := rfl
  have e1 : List.drop 1 (v1 :: Value.ref q :: st) = .ref q :: st := rfl
  unfold Rb o_callX
  rw [e1, e]
  dsimp only
  rw [if_pos ⟨hs, hcl⟩, hc]
  exact h
theorem w_callX0I {P : Option Value → ab_W → Prop} {Q : Int → TS → Prop} (hs : ab_isS q = true) (hcl : ab_cl st = true) (hc : CI cal i [.ref q] w Q) (h : ∀ z t, Q z t → Rp B N k lv (.int (jI z) :: st) (mk t) P) : Rp B N (o_callX cal i 0 k) lv (.ref q :: st) w P := by
  obtain ⟨z, t, e, hq⟩ := hc
  exact Rp_map (fun _ => rb_callX0 hs hcl e) (h z t hq)
theorem w_callX1I {P : Option Value → ab_W → Prop} {Q : Int → TS → Prop} {v1 : Value} (hs : ab_isS q = true) (hcl : ab_cl st = true) (hc : CI cal i [.ref q, v1] w Q) (h : ∀ z t, Q z t → Rp B N k lv (.int (jI z) :: st) (mk t) P) : Rp B N (o_callX cal i 1 k) lv (v1 :: .ref q :: st) w P := by
  obtain ⟨z, t, e, hq⟩ := hc
  exact Rp_map (fun _ => rb_callX1 hs hcl e) (h z t hq)
end XR
theorem c_len3 {d : Nat} (t : TS) : CI (EX FU (d + 3)) 229 [.ref (1000000 + 3)] (mk t) (fun z t' => t = t' ∧ z = 4) := ⟨4, t, rfl, rfl, rfl⟩
theorem c_ch3_0 {d : Nat} (t : TS) : EX FU (d + 5) 230 [.ref (1000000 + 3), .int (jI 0)] (mk t) = some (some (.int (jI 100)), mk t) := by
  refine EX_run (Bk := bJ0_charAt_5068e) (nL := 2) rfl rfl rfl (Nat.le_of_ble_eq_true rfl) ?_
  show ab_run _ 1000000 0 [some (.ref (1000000 + 3)), some (.int (jI 0))] [] (mk t) = _
  refine rn_step rfl ?_
  refine rb_aload rfl ?_
  refine rb_callX0 (v := .int 1) rfl rfl rfl ?_
  refine rb_ieq (fun h => absurd h (by decide)) (fun _ => ?_)
  refine rb_aload rfl ?_
  have hc : EX FU (d + 4) 237 [.ref 1000013, .int (jI 0)] (mk t) = some (some (.int (jI 100)), mk t) := by
    refine EX_run (Bk := bJ1_charAt_3b067) (nL := 2) rfl rfl rfl (Nat.le_of_ble_eq_true rfl) ?_
    show ab_run _ 1000000 0 [some (.ref 1000013), some (.int (jI 0))] [] (mk t) = _
    refine rn_step rfl ?_
    refine rb_iload rfl ?_
    refine rb_aload rfl ?_
    refine rb_sblen (x := 4) rfl (by decide) ?_
    refine rb_callS2v rfl (c_J235 (d := d + 1) t (by decide) (by decide)) ?_
    refine rb_aload rfl ?_
    refine rb_iload rfl ?_
    refine rb_sbal (x := 100) (by decide) (by decide) ?_
    refine rb_push ?_
    refine rb_binL (z := 100) (by decide) ?_
    refine rb_unL (z := 100) (by decide) ?_
    exact rb_ret rfl rfl
  refine rb_sval rfl ?_
  refine rb_iload rfl ?_
  refine rb_callS2 rfl hc ?_
  exact rb_ret rfl rfl
theorem c_ch3_1 {d : Nat} (t : TS) : EX FU (d + 5) 230 [.ref (1000000 + 3), .int (jI 1)] (mk t) = some (some (.int (jI 97)), mk t) := by
  refine EX_run (Bk := bJ0_charAt_5068e) (nL := 2) rfl rfl rfl (Nat.le_of_ble_eq_true rfl) ?_
  show ab_run _ 1000000 0 [some (.ref (1000000 + 3)), some (.int (jI 1))] [] (mk t) = _
  refine rn_step rfl ?_
  refine rb_aload rfl ?_
  refine rb_callX0 (v := .int 1) rfl rfl rfl ?_
  refine rb_ieq (fun h => absurd h (by decide)) (fun _ => ?_)
  refine rb_aload rfl ?_
  have hc : EX FU (d + 4) 237 [.ref 1000013, .int (jI 1)] (mk t) = some (some (.int (jI 97)), mk t) := by
    refine EX_run (Bk := bJ1_charAt_3b067) (nL := 2) rfl rfl rfl (Nat.le_of_ble_eq_true rfl) ?_
    show ab_run _ 1000000 0 [some (.ref 1000013), some (.int (jI 1))] [] (mk t) = _
    refine rn_step rfl ?_
    refine rb_iload rfl ?_
    refine rb_aload rfl ?_
    refine rb_sblen (x := 4) rfl (by decide) ?_
    refine rb_callS2v rfl (c_J235 (d := d + 1) t (by decide) (by decide)) ?_
    refine rb_aload rfl ?_
    refine rb_iload rfl ?_
    refine rb_sbal (x := 97) (by decide) (by decide) ?_
    refine rb_push ?_
    refine rb_binL (z := 97) (by decide) ?_
    refine rb_unL (z := 97) (by decide) ?_
    exact rb_ret rfl rfl
  refine rb_sval rfl ?_
  refine rb_iload rfl ?_
  refine rb_callS2 rfl hc ?_
  exact rb_ret rfl rfl
theorem c_ch3_2 {d : Nat} (t : TS) : EX FU (d + 5) 230 [.ref (1000000 + 3), .int (jI 2)] (mk t) = some (some (.int (jI 114)), mk t) := by
  refine EX_run (Bk := bJ0_charAt_5068e) (nL := 2) rfl rfl rfl (Nat.le_of_ble_eq_true rfl) ?_
  show ab_run _ 1000000 0 [some (.ref (1000000 + 3)), some (.int (jI 2))] [] (mk t) = _
  refine rn_step rfl ?_
  refine rb_aload rfl ?_
  refine rb_callX0 (v := .int 1) rfl rfl rfl ?_
  refine rb_ieq (fun h => absurd h (by decide)) (fun _ => ?_)
  refine rb_aload rfl ?_
  have hc : EX FU (d + 4) 237 [.ref 1000013, .int (jI 2)] (mk t) = some (some (.int (jI 114)), mk t) := by
    refine EX_run (Bk := bJ1_charAt_3b067) (nL := 2) rfl rfl rfl (Nat.le_of_ble_eq_true rfl) ?_
    show ab_run _ 1000000 0 [some (.ref 1000013), some (.int (jI 2))] [] (mk t) = _
    refine rn_step rfl ?_
    refine rb_iload rfl ?_
    refine rb_aload rfl ?_
    refine rb_sblen (x := 4) rfl (by decide) ?_
    refine rb_callS2v rfl (c_J235 (d := d + 1) t (by decide) (by decide)) ?_
    refine rb_aload rfl ?_
    refine rb_iload rfl ?_
    refine rb_sbal (x := 114) (by decide) (by decide) ?_
    refine rb_push ?_
    refine rb_binL (z := 114) (by decide) ?_
    refine rb_unL (z := 114) (by decide) ?_
    exact rb_ret rfl rfl
  refine rb_sval rfl ?_
  refine rb_iload rfl ?_
  refine rb_callS2 rfl hc ?_
  exact rb_ret rfl rfl
theorem c_ch3_3 {d : Nat} (t : TS) : EX FU (d + 5) 230 [.ref (1000000 + 3), .int (jI 3)] (mk t) = some (some (.int (jI 107)), mk t) := by
  refine EX_run (Bk := bJ0_charAt_5068e) (nL := 2) rfl rfl rfl (Nat.le_of_ble_eq_true rfl) ?_
  show ab_run _ 1000000 0 [some (.ref (1000000 + 3)), some (.int (jI 3))] [] (mk t) = _
  refine rn_step rfl ?_
  refine rb_aload rfl ?_
  refine rb_callX0 (v := .int 1) rfl rfl rfl ?_
  refine rb_ieq (fun h => absurd h (by decide)) (fun _ => ?_)
  refine rb_aload rfl ?_
  have hc : EX FU (d + 4) 237 [.ref 1000013, .int (jI 3)] (mk t) = some (some (.int (jI 107)), mk t) := by
    refine EX_run (Bk := bJ1_charAt_3b067) (nL := 2) rfl rfl rfl (Nat.le_of_ble_eq_true rfl) ?_
    show ab_run _ 1000000 0 [some (.ref 1000013), some (.int (jI 3))] [] (mk t) = _
    refine rn_step rfl ?_
    refine rb_iload rfl ?_
    refine rb_aload rfl ?_
    refine rb_sblen (x := 4) rfl (by decide) ?_
    refine rb_callS2v rfl (c_J235 (d := d + 1) t (by decide) (by decide)) ?_
    refine rb_aload rfl ?_
    refine rb_iload rfl ?_
    refine rb_sbal (x := 107) (by decide) (by decide) ?_
    refine rb_push ?_
    refine rb_binL (z := 107) (by decide) ?_
    refine rb_unL (z := 107) (by decide) ?_
    exact rb_ret rfl rfl
  refine rb_sval rfl ?_
  refine rb_iload rfl ?_
  refine rb_callS2 rfl hc ?_
  exact rb_ret rfl rfl
theorem c_len4 {d : Nat} (t : TS) : CI (EX FU (d + 3)) 229 [.ref (1000000 + 4)] (mk t) (fun z t' => t = t' ∧ z = 3) := ⟨3, t, rfl, rfl, rfl⟩
theorem c_ch4_0 {d : Nat} (t : TS) : EX FU (d + 5) 230 [.ref (1000000 + 4), .int (jI 0)] (mk t) = some (some (.int (jI 102)), mk t) := by
  refine EX_run (Bk := bJ0_charAt_5068e) (nL := 2) rfl rfl rfl (Nat.le_of_ble_eq_true rfl) ?_
  show ab_run _ 1000000 0 [some (.ref (1000000 + 4)), some (.int (jI 0))] [] (mk t) = _
  refine rn_step rfl ?_
  refine rb_aload rfl ?_
  refine rb_callX0 (v := .int 1) rfl rfl rfl ?_
  refine rb_ieq (fun h => absurd h (by decide)) (fun _ => ?_)
  refine rb_aload rfl ?_
  have hc : EX FU (d + 4) 237 [.ref 1000014, .int (jI 0)] (mk t) = some (some (.int (jI 102)), mk t) := by
    refine EX_run (Bk := bJ1_charAt_3b067) (nL := 2) rfl rfl rfl (Nat.le_of_ble_eq_true rfl) ?_
    show ab_run _ 1000000 0 [some (.ref 1000014), some (.int (jI 0))] [] (mk t) = _
    refine rn_step rfl ?_
    refine rb_iload rfl ?_
    refine rb_aload rfl ?_
    refine rb_sblen (x := 3) rfl (by decide) ?_
    refine rb_callS2v rfl (c_J235 (d := d + 1) t (by decide) (by decide)) ?_
    refine rb_aload rfl ?_
    refine rb_iload rfl ?_
    refine rb_sbal (x := 102) (by decide) (by decide) ?_
    refine rb_push ?_
    refine rb_binL (z := 102) (by decide) ?_
    refine rb_unL (z := 102) (by decide) ?_
    exact rb_ret rfl rfl
  refine rb_sval rfl ?_
  refine rb_iload rfl ?_
  refine rb_callS2 rfl hc ?_
  exact rb_ret rfl rfl
theorem c_ch4_1 {d : Nat} (t : TS) : EX FU (d + 5) 230 [.ref (1000000 + 4), .int (jI 1)] (mk t) = some (some (.int (jI 101)), mk t) := by
  refine EX_run (Bk := bJ0_charAt_5068e) (nL := 2) rfl rfl rfl (Nat.le_of_ble_eq_true rfl) ?_
  show ab_run _ 1000000 0 [some (.ref (1000000 + 4)), some (.int (jI 1))] [] (mk t) = _
  refine rn_step rfl ?_
  refine rb_aload rfl ?_
  refine rb_callX0 (v := .int 1) rfl rfl rfl ?_
  refine rb_ieq (fun h => absurd h (by decide)) (fun _ => ?_)
  refine rb_aload rfl ?_
  have hc : EX FU (d + 4) 237 [.ref 1000014, .int (jI 1)] (mk t) = some (some (.int (jI 101)), mk t) := by
    refine EX_run (Bk := bJ1_charAt_3b067) (nL := 2) rfl rfl rfl (Nat.le_of_ble_eq_true rfl) ?_
    show ab_run _ 1000000 0 [some (.ref 1000014), some (.int (jI 1))] [] (mk t) = _
    refine rn_step rfl ?_
    refine rb_iload rfl ?_
    refine rb_aload rfl ?_
    refine rb_sblen (x := 3) rfl (by decide) ?_
    refine rb_callS2v rfl (c_J235 (d := d + 1) t (by decide) (by decide)) ?_
    refine rb_aload rfl ?_
    refine rb_iload rfl ?_
    refine rb_sbal (x := 101) (by decide) (by decide) ?_
    refine rb_push ?_
    refine rb_binL (z := 101) (by decide) ?_
    refine rb_unL (z := 101) (by decide) ?_
    exact rb_ret rfl rfl
  refine rb_sval rfl ?_
  refine rb_iload rfl ?_
  refine rb_callS2 rfl hc ?_
  exact rb_ret rfl rfl
theorem c_ch4_2 {d : Nat} (t : TS) : EX FU (d + 5) 230 [.ref (1000000 + 4), .int (jI 2)] (mk t) = some (some (.int (jI 101)), mk t) := by
  refine EX_run (Bk := bJ0_charAt_5068e) (nL := 2) rfl rfl rfl (Nat.le_of_ble_eq_true rfl) ?_
  show ab_run _ 1000000 0 [some (.ref (1000000 + 4)), some (.int (jI 2))] [] (mk t) = _
  refine rn_step rfl ?_
  refine rb_aload rfl ?_
  refine rb_callX0 (v := .int 1) rfl rfl rfl ?_
  refine rb_ieq (fun h => absurd h (by decide)) (fun _ => ?_)
  refine rb_aload rfl ?_
  have hc : EX FU (d + 4) 237 [.ref 1000014, .int (jI 2)] (mk t) = some (some (.int (jI 101)), mk t) := by
    refine EX_run (Bk := bJ1_charAt_3b067) (nL := 2) rfl rfl rfl (Nat.le_of_ble_eq_true rfl) ?_
    show ab_run _ 1000000 0 [some (.ref 1000014), some (.int (jI 2))] [] (mk t) = _
    refine rn_step rfl ?_
    refine rb_iload rfl ?_
    refine rb_aload rfl ?_
    refine rb_sblen (x := 3) rfl (by decide) ?_
    refine rb_callS2v rfl (c_J235 (d := d + 1) t (by decide) (by decide)) ?_
    refine rb_aload rfl ?_
    refine rb_iload rfl ?_
    refine rb_sbal (x := 101) (by decide) (by decide) ?_
    refine rb_push ?_
    refine rb_binL (z := 101) (by decide) ?_
    refine rb_unL (z := 101) (by decide) ?_
    exact rb_ret rfl rfl
  refine rb_sval rfl ?_
  refine rb_iload rfl ?_
  refine rb_callS2 rfl hc ?_
  exact rb_ret rfl rfl
theorem c_len5 {d : Nat} (t : TS) : CI (EX FU (d + 3)) 229 [.ref (1000000 + 5)] (mk t) (fun z t' => t = t' ∧ z = 4) := ⟨4, t, rfl, rfl, rfl⟩
theorem c_ch5_0 {d : Nat} (t : TS) : EX FU (d + 5) 230 [.ref (1000000 + 5), .int (jI 0)] (mk t) = some (some (.int (jI 102)), mk t) := by
  refine EX_run (Bk := bJ0_charAt_5068e) (nL := 2) rfl rfl rfl (Nat.le_of_ble_eq_true rfl) ?_
  show ab_run _ 1000000 0 [some (.ref (1000000 + 5)), some (.int (jI 0))] [] (mk t) = _
  refine rn_step rfl ?_
  refine rb_aload rfl ?_
  refine rb_callX0 (v := .int 1) rfl rfl rfl ?_
  refine rb_ieq (fun h => absurd h (by decide)) (fun _ => ?_)
  refine rb_aload rfl ?_
  have hc : EX FU (d + 4) 237 [.ref 1000015, .int (jI 0)] (mk t) = some (some (.int (jI 102)), mk t) := by
    refine EX_run (Bk := bJ1_charAt_3b067) (nL := 2) rfl rfl rfl (Nat.le_of_ble_eq_true rfl) ?_
    show ab_run _ 1000000 0 [some (.ref 1000015), some (.int (jI 0))] [] (mk t) = _
    refine rn_step rfl ?_
    refine rb_iload rfl ?_
    refine rb_aload rfl ?_
    refine rb_sblen (x := 4) rfl (by decide) ?_
    refine rb_callS2v rfl (c_J235 (d := d + 1) t (by decide) (by decide)) ?_
    refine rb_aload rfl ?_
    refine rb_iload rfl ?_
    refine rb_sbal (x := 102) (by decide) (by decide) ?_
    refine rb_push ?_
    refine rb_binL (z := 102) (by decide) ?_
    refine rb_unL (z := 102) (by decide) ?_
    exact rb_ret rfl rfl
  refine rb_sval rfl ?_
  refine rb_iload rfl ?_
  refine rb_callS2 rfl hc ?_
  exact rb_ret rfl rfl
theorem c_ch5_1 {d : Nat} (t : TS) : EX FU (d + 5) 230 [.ref (1000000 + 5), .int (jI 1)] (mk t) = some (some (.int (jI 105)), mk t) := by
  refine EX_run (Bk := bJ0_charAt_5068e) (nL := 2) rfl rfl rfl (Nat.le_of_ble_eq_true rfl) ?_
  show ab_run _ 1000000 0 [some (.ref (1000000 + 5)), some (.int (jI 1))] [] (mk t) = _
  refine rn_step rfl ?_
  refine rb_aload rfl ?_
  refine rb_callX0 (v := .int 1) rfl rfl rfl ?_
  refine rb_ieq (fun h => absurd h (by decide)) (fun _ => ?_)
  refine rb_aload rfl ?_
  have hc : EX FU (d + 4) 237 [.ref 1000015, .int (jI 1)] (mk t) = some (some (.int (jI 105)), mk t) := by
    refine EX_run (Bk := bJ1_charAt_3b067) (nL := 2) rfl rfl rfl (Nat.le_of_ble_eq_true rfl) ?_
    show ab_run _ 1000000 0 [some (.ref 1000015), some (.int (jI 1))] [] (mk t) = _
    refine rn_step rfl ?_
    refine rb_iload rfl ?_
    refine rb_aload rfl ?_
    refine rb_sblen (x := 4) rfl (by decide) ?_
    refine rb_callS2v rfl (c_J235 (d := d + 1) t (by decide) (by decide)) ?_
    refine rb_aload rfl ?_
    refine rb_iload rfl ?_
    refine rb_sbal (x := 105) (by decide) (by decide) ?_
    refine rb_push ?_
    refine rb_binL (z := 105) (by decide) ?_
    refine rb_unL (z := 105) (by decide) ?_
    exact rb_ret rfl rfl
  refine rb_sval rfl ?_
  refine rb_iload rfl ?_
  refine rb_callS2 rfl hc ?_
  exact rb_ret rfl rfl
theorem c_ch5_2 {d : Nat} (t : TS) : EX FU (d + 5) 230 [.ref (1000000 + 5), .int (jI 2)] (mk t) = some (some (.int (jI 110)), mk t) := by
  refine EX_run (Bk := bJ0_charAt_5068e) (nL := 2) rfl rfl rfl (Nat.le_of_ble_eq_true rfl) ?_
  show ab_run _ 1000000 0 [some (.ref (1000000 + 5)), some (.int (jI 2))] [] (mk t) = _
  refine rn_step rfl ?_
  refine rb_aload rfl ?_
  refine rb_callX0 (v := .int 1) rfl rfl rfl ?_
  refine rb_ieq (fun h => absurd h (by decide)) (fun _ => ?_)
  refine rb_aload rfl ?_
  have hc : EX FU (d + 4) 237 [.ref 1000015, .int (jI 2)] (mk t) = some (some (.int (jI 110)), mk t) := by
    refine EX_run (Bk := bJ1_charAt_3b067) (nL := 2) rfl rfl rfl (Nat.le_of_ble_eq_true rfl) ?_
    show ab_run _ 1000000 0 [some (.ref 1000015), some (.int (jI 2))] [] (mk t) = _
    refine rn_step rfl ?_
    refine rb_iload rfl ?_
    refine rb_aload rfl ?_
    refine rb_sblen (x := 4) rfl (by decide) ?_
    refine rb_callS2v rfl (c_J235 (d := d + 1) t (by decide) (by decide)) ?_
    refine rb_aload rfl ?_
    refine rb_iload rfl ?_
    refine rb_sbal (x := 110) (by decide) (by decide) ?_
    refine rb_push ?_
    refine rb_binL (z := 110) (by decide) ?_
    refine rb_unL (z := 110) (by decide) ?_
    exact rb_ret rfl rfl
  refine rb_sval rfl ?_
  refine rb_iload rfl ?_
  refine rb_callS2 rfl hc ?_
  exact rb_ret rfl rfl
theorem c_ch5_3 {d : Nat} (t : TS) : EX FU (d + 5) 230 [.ref (1000000 + 5), .int (jI 3)] (mk t) = some (some (.int (jI 101)), mk t) := by
  refine EX_run (Bk := bJ0_charAt_5068e) (nL := 2) rfl rfl rfl (Nat.le_of_ble_eq_true rfl) ?_
  show ab_run _ 1000000 0 [some (.ref (1000000 + 5)), some (.int (jI 3))] [] (mk t) = _
  refine rn_step rfl ?_
  refine rb_aload rfl ?_
  refine rb_callX0 (v := .int 1) rfl rfl rfl ?_
  refine rb_ieq (fun h => absurd h (by decide)) (fun _ => ?_)
  refine rb_aload rfl ?_
  have hc : EX FU (d + 4) 237 [.ref 1000015, .int (jI 3)] (mk t) = some (some (.int (jI 101)), mk t) := by
    refine EX_run (Bk := bJ1_charAt_3b067) (nL := 2) rfl rfl rfl (Nat.le_of_ble_eq_true rfl) ?_
    show ab_run _ 1000000 0 [some (.ref 1000015), some (.int (jI 3))] [] (mk t) = _
    refine rn_step rfl ?_
    refine rb_iload rfl ?_
    refine rb_aload rfl ?_
    refine rb_sblen (x := 4) rfl (by decide) ?_
    refine rb_callS2v rfl (c_J235 (d := d + 1) t (by decide) (by decide)) ?_
    refine rb_aload rfl ?_
    refine rb_iload rfl ?_
    refine rb_sbal (x := 101) (by decide) (by decide) ?_
    refine rb_push ?_
    refine rb_binL (z := 101) (by decide) ?_
    refine rb_unL (z := 101) (by decide) ?_
    exact rb_ret rfl rfl
  refine rb_sval rfl ?_
  refine rb_iload rfl ?_
  refine rb_callS2 rfl hc ?_
  exact rb_ret rfl rfl
set_option maxRecDepth 100000 in
theorem c_ix6 {d : Nat} (t : TS) {c : Int} (hc : 97 ≤ c ∧ c ≤ 122) : CI (EX FU (d + 6)) 231 [.ref (1000000 + 6), .int (jI c)] (mk t) (fun z t' => t = t' ∧ z = nmF 0 c) := by
  have h : c = 97 ∨ c = 98 ∨ c = 99 ∨ c = 100 ∨ c = 101 ∨ c = 102 ∨ c = 103 ∨ c = 104 ∨ c = 105 ∨ c = 106 ∨ c = 107 ∨ c = 108 ∨ c = 109 ∨ c = 110 ∨ c = 111 ∨ c = 112 ∨ c = 113 ∨ c = 114 ∨ c = 115 ∨ c = 116 ∨ c = 117 ∨ c = 118 ∨ c = 119 ∨ c = 120 ∨ c = 121 ∨ c = 122 := by omega
  rcases h with rfl | rfl | rfl | rfl | rfl | rfl | rfl | rfl | rfl | rfl | rfl | rfl | rfl | rfl | rfl | rfl | rfl | rfl | rfl | rfl | rfl | rfl | rfl | rfl | rfl | rfl
  · exact ⟨-1, t, rfl, rfl, rfl⟩
  · exact ⟨-1, t, rfl, rfl, rfl⟩
  · exact ⟨-1, t, rfl, rfl, rfl⟩
  · exact ⟨-1, t, rfl, rfl, rfl⟩
  · exact ⟨-1, t, rfl, rfl, rfl⟩
  · exact ⟨-1, t, rfl, rfl, rfl⟩
  · exact ⟨-1, t, rfl, rfl, rfl⟩
  · exact ⟨-1, t, rfl, rfl, rfl⟩
  · exact ⟨-1, t, rfl, rfl, rfl⟩
  · exact ⟨-1, t, rfl, rfl, rfl⟩
  · exact ⟨2, t, rfl, rfl, rfl⟩
  · exact ⟨-1, t, rfl, rfl, rfl⟩
  · exact ⟨-1, t, rfl, rfl, rfl⟩
  · exact ⟨-1, t, rfl, rfl, rfl⟩
  · exact ⟨-1, t, rfl, rfl, rfl⟩
  · exact ⟨-1, t, rfl, rfl, rfl⟩
  · exact ⟨-1, t, rfl, rfl, rfl⟩
  · exact ⟨1, t, rfl, rfl, rfl⟩
  · exact ⟨0, t, rfl, rfl, rfl⟩
  · exact ⟨-1, t, rfl, rfl, rfl⟩
  · exact ⟨-1, t, rfl, rfl, rfl⟩
  · exact ⟨-1, t, rfl, rfl, rfl⟩
  · exact ⟨-1, t, rfl, rfl, rfl⟩
  · exact ⟨-1, t, rfl, rfl, rfl⟩
  · exact ⟨-1, t, rfl, rfl, rfl⟩
  · exact ⟨-1, t, rfl, rfl, rfl⟩
set_option maxRecDepth 100000 in
theorem c_ix7 {d : Nat} (t : TS) {c : Int} (hc : 97 ≤ c ∧ c ≤ 122) : CI (EX FU (d + 6)) 231 [.ref (1000000 + 7), .int (jI c)] (mk t) (fun z t' => t = t' ∧ z = nmF 1 c) := by
  have h : c = 97 ∨ c = 98 ∨ c = 99 ∨ c = 100 ∨ c = 101 ∨ c = 102 ∨ c = 103 ∨ c = 104 ∨ c = 105 ∨ c = 106 ∨ c = 107 ∨ c = 108 ∨ c = 109 ∨ c = 110 ∨ c = 111 ∨ c = 112 ∨ c = 113 ∨ c = 114 ∨ c = 115 ∨ c = 116 ∨ c = 117 ∨ c = 118 ∨ c = 119 ∨ c = 120 ∨ c = 121 ∨ c = 122 := by omega
  rcases h with rfl | rfl | rfl | rfl | rfl | rfl | rfl | rfl | rfl | rfl | rfl | rfl | rfl | rfl | rfl | rfl | rfl | rfl | rfl | rfl | rfl | rfl | rfl | rfl | rfl | rfl
  · exact ⟨-1, t, rfl, rfl, rfl⟩
  · exact ⟨-1, t, rfl, rfl, rfl⟩
  · exact ⟨-1, t, rfl, rfl, rfl⟩
  · exact ⟨-1, t, rfl, rfl, rfl⟩
  · exact ⟨-1, t, rfl, rfl, rfl⟩
  · exact ⟨-1, t, rfl, rfl, rfl⟩
  · exact ⟨-1, t, rfl, rfl, rfl⟩
  · exact ⟨-1, t, rfl, rfl, rfl⟩
  · exact ⟨-1, t, rfl, rfl, rfl⟩
  · exact ⟨-1, t, rfl, rfl, rfl⟩
  · exact ⟨-1, t, rfl, rfl, rfl⟩
  · exact ⟨-1, t, rfl, rfl, rfl⟩
  · exact ⟨1, t, rfl, rfl, rfl⟩
  · exact ⟨-1, t, rfl, rfl, rfl⟩
  · exact ⟨-1, t, rfl, rfl, rfl⟩
  · exact ⟨0, t, rfl, rfl, rfl⟩
  · exact ⟨-1, t, rfl, rfl, rfl⟩
  · exact ⟨-1, t, rfl, rfl, rfl⟩
  · exact ⟨-1, t, rfl, rfl, rfl⟩
  · exact ⟨-1, t, rfl, rfl, rfl⟩
  · exact ⟨-1, t, rfl, rfl, rfl⟩
  · exact ⟨-1, t, rfl, rfl, rfl⟩
  · exact ⟨-1, t, rfl, rfl, rfl⟩
  · exact ⟨-1, t, rfl, rfl, rfl⟩
  · exact ⟨-1, t, rfl, rfl, rfl⟩
  · exact ⟨-1, t, rfl, rfl, rfl⟩
set_option maxRecDepth 100000 in
theorem c_ix8 {d : Nat} (t : TS) {c : Int} (hc : 97 ≤ c ∧ c ≤ 122) : CI (EX FU (d + 6)) 231 [.ref (1000000 + 8), .int (jI c)] (mk t) (fun z t' => t = t' ∧ z = nmF 2 c) := by
  have h : c = 97 ∨ c = 98 ∨ c = 99 ∨ c = 100 ∨ c = 101 ∨ c = 102 ∨ c = 103 ∨ c = 104 ∨ c = 105 ∨ c = 106 ∨ c = 107 ∨ c = 108 ∨ c = 109 ∨ c = 110 ∨ c = 111 ∨ c = 112 ∨ c = 113 ∨ c = 114 ∨ c = 115 ∨ c = 116 ∨ c = 117 ∨ c = 118 ∨ c = 119 ∨ c = 120 ∨ c = 121 ∨ c = 122 := by omega
  rcases h with rfl | rfl | rfl | rfl | rfl | rfl | rfl | rfl | rfl | rfl | rfl | rfl | rfl | rfl | rfl | rfl | rfl | rfl | rfl | rfl | rfl | rfl | rfl | rfl | rfl | rfl
  · exact ⟨-1, t, rfl, rfl, rfl⟩
  · exact ⟨-1, t, rfl, rfl, rfl⟩
  · exact ⟨-1, t, rfl, rfl, rfl⟩
  · exact ⟨-1, t, rfl, rfl, rfl⟩
  · exact ⟨-1, t, rfl, rfl, rfl⟩
  · exact ⟨-1, t, rfl, rfl, rfl⟩
  · exact ⟨-1, t, rfl, rfl, rfl⟩
  · exact ⟨-1, t, rfl, rfl, rfl⟩
  · exact ⟨-1, t, rfl, rfl, rfl⟩
  · exact ⟨-1, t, rfl, rfl, rfl⟩
  · exact ⟨-1, t, rfl, rfl, rfl⟩
  · exact ⟨0, t, rfl, rfl, rfl⟩
  · exact ⟨-1, t, rfl, rfl, rfl⟩
  · exact ⟨-1, t, rfl, rfl, rfl⟩
  · exact ⟨-1, t, rfl, rfl, rfl⟩
  · exact ⟨-1, t, rfl, rfl, rfl⟩
  · exact ⟨-1, t, rfl, rfl, rfl⟩
  · exact ⟨1, t, rfl, rfl, rfl⟩
  · exact ⟨-1, t, rfl, rfl, rfl⟩
  · exact ⟨2, t, rfl, rfl, rfl⟩
  · exact ⟨-1, t, rfl, rfl, rfl⟩
  · exact ⟨-1, t, rfl, rfl, rfl⟩
  · exact ⟨-1, t, rfl, rfl, rfl⟩
  · exact ⟨-1, t, rfl, rfl, rfl⟩
  · exact ⟨-1, t, rfl, rfl, rfl⟩
  · exact ⟨-1, t, rfl, rfl, rfl⟩
theorem i2c_0 : ∀ n : Nat, n < 256 → fU (fun x => (x.toUInt32 % 65536).toInt32) (n : Int) = (n : Int) := by decide +kernel
theorem i2c_id {x z : Int} (hx : 0 ≤ x ∧ x ≤ 255) (h : z = fU (fun x => (x.toUInt32 % 65536).toInt32) x) : z = x := by
  obtain ⟨n, rfl⟩ := Int.eq_ofNat_of_zero_le hx.1
  rw [h, i2c_0 n (by omega)]
