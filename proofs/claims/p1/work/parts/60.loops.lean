/-! ===== loops by hand: copies; days on which nothing is laid ===== -/
theorem sA_sA (s : ST) (c : Nat) (X Y : List Int32) : sA (sA s c X) c Y = sA s c Y := by
  unfold sA
  simp only [Prod.mk.injEq, and_true, true_and]
  funext c'
  split <;> rfl
theorem sA_id (s : ST) (c : Nat) : sA s c (s.2.1 c) = s := by
  unfold sA
  have : (fun c' => if c' = c then s.2.1 c else s.2.1 c') = s.2.1 := by
    funext c'
    split
    · rename_i h; rw [h]
    · rfl
  rw [this]
theorem sI_sI (s : ST) (c f : Nat) (x y : Int32) : sI (sI s c f x) c f y = sI s c f y := by
  unfold sI
  simp only [Prod.mk.injEq, and_true]
  funext c' f'
  split
  · split <;> rfl
  · rfl
theorem sI_comm (s : ST) (c f f' : Nat) (x y : Int32) (h : f ≠ f') : sI (sI s c f x) c f' y = sI (sI s c f' y) c f x := by
  unfold sI
  simp only [Prod.mk.injEq, and_true]
  funext c0 f0
  by_cases h1 : c0 = c
  · simp only [h1, if_true]
    by_cases h2 : f0 = f
    · subst h2; simp only [if_true, h, if_false]
    · simp only [h2, if_false]
  · simp only [h1, if_false]
theorem sI_id (s : ST) (c f : Nat) : sI s c f (s.1 c f) = s := by
  unfold sI
  have : (fun c' f' => if c' = c then (if f' = f then s.1 c f else s.1 c' f') else s.1 c' f') = s.1 := by
    funext c' f'
    split
    · split
      · rename_i h h2; rw [h, h2]
      · rfl
    · rfl
  rw [this]
theorem cp_step {F T : List Int32} {k : Nat} (hF : k < F.length) (hT : k < T.length) : (F.take k ++ T.drop k).set k F[k] = F.take (k + 1) ++ T.drop (k + 1) := by
  have hl : (F.take k).length = k := by simp; omega
  rw [List.set_append_right _ _ (by omega), hl, Nat.sub_self, List.drop_eq_getElem_cons hT, List.set_cons_zero, List.take_succ_eq_append_getElem hF, List.append_assoc]
  rfl
theorem c_copyAll {d f t : Nat} (s : ST) (hf : ∀ s, ab_ia (mkW s) f 0 = some (s.2.1 f)) (ht : ∀ s, ab_ia (mkW s) t 0 = some (s.2.1 t)) (hw : ∀ s xs, (mkW s).set t (.inr (.inl (0, xs))) = mkW (sA s t xs)) (hne : f ≠ t) (lf : (s.2.1 f).length = 1461) (lt : (s.2.1 t).length = 1461) : EX FU (d + 1) 131 [.ref f, .ref t] (mkW s) = some (none, mkW (sA s t (s.2.1 f))) := by
  apply ex_X9_copyAll
  refine rn_step rfl ?_
  refine rb_push ?_
  refine rb_istore (lv' := [some (.ref f), some (.ref t), some (.int (nI 0))]) rfl ?_
  refine rb_goto ?_
  have key : ∀ m k, k + m = 1461 → ab_run (bX9_copyAll (EX FU d)) (m + 2) 1 [some (.ref f), some (.ref t), some (.int (nI k))] [] (mkW (sA s t ((s.2.1 f).take k ++ (s.2.1 t).drop k))) = some (none, mkW (sA s t (s.2.1 f))) := by
    intro m
    induction m with
    | zero =>
      intro k hk
      have hk2 : k = 1461 := by omega
      subst hk2
      refine rn_step rfl ?_
      refine rb_iload rfl ?_
      refine rb_push ?_
      refine rb_cge (fun _ => ?_) (fun h => absurd (by decide) h)
      refine rn_step rfl ?_
      refine rb_retv ?_
      rw [List.take_of_length_le (by omega), List.drop_eq_nil_of_le (by omega), List.append_nil]
    | succ m ih =>
      intro k hk
      have h1 : k < (s.2.1 f).length := by omega
      have h2 : k < (s.2.1 t).length := by omega
      refine rn_step rfl ?_
      refine rb_iload rfl ?_
      refine rb_push ?_
      refine rb_cge (fun h => absurd h (nI_ge (b := 1461) (by omega) (by decide))) (fun _ => ?_)
      refine rb_aload rfl ?_
      refine rb_iload rfl ?_
      refine rb_aload rfl ?_
      refine rb_iload rfl ?_
      refine rb_iald (hf _) (nI_pos (by omega)) (x := (s.2.1 f)[k]) (by rw [nI_clamp (by omega), sA_ne _ _ _ _ hne]; exact List.getElem?_eq_getElem h1) ?_
      refine rb_iast (ht _) (nI_pos (by omega)) (by rw [nI_clamp (by omega), sA_same]; simp; omega) (hw _ _) ?_
      refine rb_iinc (lv' := [some (.ref f), some (.ref t), some (.int (nI (k + 1)))]) rfl (by rw [nI_succ]; rfl) ?_
      refine rb_goto ?_
      rw [sA_same, sA_sA, nI_clamp (by omega), cp_step h1 h2]
      exact ih (k + 1) (by omega)
  have h0 := key 1461 0 rfl
  rw [List.take_zero, List.drop_zero, List.nil_append, sA_id] at h0
  exact rn_mono h0 (Nat.le_of_ble_eq_true rfl)
theorem c_thinks {d : Nat} (s : ST) (l69 : (s.2.1 69).length = 1461) (l74 : (s.2.1 74).length = 89) : EX FU (d + 1) 176 [.ref 68] (mkW s) = some (none, mkW (sA s 74 ((s.2.1 69).take 89))) := by
  apply ex_X9_thinks
  refine rn_step rfl ?_
  refine rb_push ?_
  refine rb_istore (lv' := [some (.ref 68), some (.int (nI 0))]) rfl ?_
  refine rb_goto ?_
  have key : ∀ m k, k + m = 89 → ab_run (bX9_thinks (EX FU d)) (m + 2) 1 [some (.ref 68), some (.int (nI k))] [] (mkW (sA s 74 ((s.2.1 69).take k ++ (s.2.1 74).drop k))) = some (none, mkW (sA s 74 ((s.2.1 69).take 89))) := by
    intro m
    induction m with
    | zero =>
      intro k hk
      have hk2 : k = 89 := by omega
      subst hk2
      refine rn_step rfl ?_
      refine rb_iload rfl ?_
      refine rb_push ?_
      refine rb_cge (fun _ => ?_) (fun h => absurd (by decide) h)
      refine rn_step rfl ?_
      refine rb_retv ?_
      rw [List.drop_eq_nil_of_le (by omega), List.append_nil]
    | succ m ih =>
      intro k hk
      have h1 : k < (s.2.1 69).length := by omega
      have h2 : k < (s.2.1 74).length := by omega
      refine rn_step rfl ?_
      refine rb_iload rfl ?_
      refine rb_push ?_
      refine rb_cge (fun h => absurd h (nI_ge (b := 89) (by omega) (by decide))) (fun _ => ?_)
      refine rb_aload rfl ?_
      refine rb_getf (v := .ref 74) rfl ?_
      refine rb_iload rfl ?_
      refine rb_aload rfl ?_
      refine rb_getf (v := .ref 69) rfl ?_
      refine rb_iload rfl ?_
      refine rb_iald (xs := s.2.1 69) rfl (nI_pos (by omega)) (x := (s.2.1 69)[k]) (by rw [nI_clamp (by omega)]; exact List.getElem?_eq_getElem h1) ?_
      refine rb_iast (xs := (s.2.1 69).take k ++ (s.2.1 74).drop k) rfl (nI_pos (by omega)) (by rw [nI_clamp (by omega)]; simp; omega) (wa_74 _ _) ?_
      refine rb_iinc (lv' := [some (.ref 68), some (.int (nI (k + 1)))]) rfl (by rw [nI_succ]; rfl) ?_
      refine rb_goto ?_
      rw [sA_sA, nI_clamp (by omega), cp_step h1 h2]
      exact ih (k + 1) (by omega)
  have h0 := key 89 0 rfl
  rw [List.take_zero, List.drop_zero, List.nil_append, sA_id] at h0
  exact rn_mono h0 (Nat.le_of_ble_eq_true rfl)
theorem c_putsBack {d : Nat} (s : ST) (l69 : (s.2.1 69).length = 1461) (l74 : (s.2.1 74).length = 89) : EX FU (d + 1) 177 [.ref 68] (mkW s) = some (none, mkW (sI (sA s 69 ((s.2.1 74).take 89 ++ (s.2.1 69).drop 89)) 68 4 (-1))) := by
  apply ex_X9_putsBack
  refine rn_step rfl ?_
  refine rb_push ?_
  refine rb_istore (lv' := [some (.ref 68), some (.int (nI 0))]) rfl ?_
  refine rb_goto ?_
  have key : ∀ m k, k + m = 89 → ab_run (bX9_putsBack (EX FU d)) (m + 2) 1 [some (.ref 68), some (.int (nI k))] [] (mkW (sA s 69 ((s.2.1 74).take k ++ (s.2.1 69).drop k))) = some (none, mkW (sI (sA s 69 ((s.2.1 74).take 89 ++ (s.2.1 69).drop 89)) 68 4 (-1))) := by
    intro m
    induction m with
    | zero =>
      intro k hk
      have hk2 : k = 89 := by omega
      subst hk2
      refine rn_step rfl ?_
      refine rb_iload rfl ?_
      refine rb_push ?_
      refine rb_cge (fun _ => ?_) (fun h => absurd (by decide) h)
      refine rn_step rfl ?_
      refine rb_aload rfl ?_
      refine rb_push ?_
      refine rb_putI (pf_68_4 _ _) ?_
      exact rb_retv rfl
    | succ m ih =>
      intro k hk
      have h1 : k < (s.2.1 74).length := by omega
      have h2 : k < (s.2.1 69).length := by omega
      refine rn_step rfl ?_
      refine rb_iload rfl ?_
      refine rb_push ?_
      refine rb_cge (fun h => absurd h (nI_ge (b := 89) (by omega) (by decide))) (fun _ => ?_)
      refine rb_aload rfl ?_
      refine rb_getf (v := .ref 69) rfl ?_
      refine rb_iload rfl ?_
      refine rb_aload rfl ?_
      refine rb_getf (v := .ref 74) rfl ?_
      refine rb_iload rfl ?_
      refine rb_iald (xs := s.2.1 74) rfl (nI_pos (by omega)) (x := (s.2.1 74)[k]) (by rw [nI_clamp (by omega)]; exact List.getElem?_eq_getElem h1) ?_
      refine rb_iast (xs := (s.2.1 74).take k ++ (s.2.1 69).drop k) rfl (nI_pos (by omega)) (by rw [nI_clamp (by omega)]; simp; omega) (wa_69 _ _) ?_
      refine rb_iinc (lv' := [some (.ref 68), some (.int (nI (k + 1)))]) rfl (by rw [nI_succ]; rfl) ?_
      refine rb_goto ?_
      rw [sA_sA, nI_clamp (by omega), cp_step h1 h2]
      exact ih (k + 1) (by omega)
  have h0 := key 89 0 rfl
  rw [List.take_zero, List.drop_zero, List.nil_append, sA_id] at h0
  exact rn_mono h0 (Nat.le_of_ble_eq_true rfl)
