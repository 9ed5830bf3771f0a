section ABO2
variable {G : ab_G} {Z : State → Prop} {d : Nat} {Y : ab_Y} {pc : Nat} {k : ab_K}
theorem sn_iadd (hd : decode Y.1 pc = .ok (.iadd, 1)) (h : ab_Sd G Z d Y (pc + 1) k) : ab_Sd G Z d Y pc (o_bin (fun x y => x + y) k) := by
  refine h.step fun lv st w r hr => ?_
  unfold o_bin at hr
  split at hr
  · exact ⟨_, _, w, hr, ab_le.rf, fun p l e R s m args below meth c Q n0 t0 N T hX hR hn ht hN hT kk ls H locs hl ha hS => lv_iadd hX.1 hX.2.1 hd (kk ls H locs hl ha hS)⟩
  · cases hr
theorem sn_isub (hd : decode Y.1 pc = .ok (.isub, 1)) (h : ab_Sd G Z d Y (pc + 1) k) : ab_Sd G Z d Y pc (o_bin (fun x y => x - y) k) := by
  refine h.step fun lv st w r hr => ?_
  unfold o_bin at hr
  split at hr
  · exact ⟨_, _, w, hr, ab_le.rf, fun p l e R s m args below meth c Q n0 t0 N T hX hR hn ht hN hT kk ls H locs hl ha hS => lv_isub hX.1 hX.2.1 hd (kk ls H locs hl ha hS)⟩
  · cases hr
theorem sn_imul (hd : decode Y.1 pc = .ok (.imul, 1)) (h : ab_Sd G Z d Y (pc + 1) k) : ab_Sd G Z d Y pc (o_bin (fun x y => x * y) k) := by
  refine h.step fun lv st w r hr => ?_
  unfold o_bin at hr
  split at hr
  · exact ⟨_, _, w, hr, ab_le.rf, fun p l e R s m args below meth c Q n0 t0 N T hX hR hn ht hN hT kk ls H locs hl ha hS => lv_imul hX.1 hX.2.1 hd (kk ls H locs hl ha hS)⟩
  · cases hr
theorem sn_iand (hd : decode Y.1 pc = .ok (.iand, 1)) (h : ab_Sd G Z d Y (pc + 1) k) : ab_Sd G Z d Y pc (o_bin (fun x y => x &&& y) k) := by
  refine h.step fun lv st w r hr => ?_
  unfold o_bin at hr
  split at hr
  · exact ⟨_, _, w, hr, ab_le.rf, fun p l e R s m args below meth c Q n0 t0 N T hX hR hn ht hN hT kk ls H locs hl ha hS => lv_iand hX.1 hX.2.1 hd (kk ls H locs hl ha hS)⟩
  · cases hr
theorem sn_ior (hd : decode Y.1 pc = .ok (.ior, 1)) (h : ab_Sd G Z d Y (pc + 1) k) : ab_Sd G Z d Y pc (o_bin (fun x y => x ||| y) k) := by
  refine h.step fun lv st w r hr => ?_
  unfold o_bin at hr
  split at hr
  · exact ⟨_, _, w, hr, ab_le.rf, fun p l e R s m args below meth c Q n0 t0 N T hX hR hn ht hN hT kk ls H locs hl ha hS => lv_ior hX.1 hX.2.1 hd (kk ls H locs hl ha hS)⟩
  · cases hr
theorem sn_ixor (hd : decode Y.1 pc = .ok (.ixor, 1)) (h : ab_Sd G Z d Y (pc + 1) k) : ab_Sd G Z d Y pc (o_bin (fun x y => x ^^^ y) k) := by
  refine h.step fun lv st w r hr => ?_
  unfold o_bin at hr
  split at hr
  · exact ⟨_, _, w, hr, ab_le.rf, fun p l e R s m args below meth c Q n0 t0 N T hX hR hn ht hN hT kk ls H locs hl ha hS => lv_ixor hX.1 hX.2.1 hd (kk ls H locs hl ha hS)⟩
  · cases hr
theorem sn_ishl (hd : decode Y.1 pc = .ok (.ishl, 1)) (h : ab_Sd G Z d Y (pc + 1) k) : ab_Sd G Z d Y pc (o_bin (fun x y => x <<< (y &&& 31)) k) := by
  refine h.step fun lv st w r hr => ?_
  unfold o_bin at hr
  split at hr
  · exact ⟨_, _, w, hr, ab_le.rf, fun p l e R s m args below meth c Q n0 t0 N T hX hR hn ht hN hT kk ls H locs hl ha hS => lv_ishl hX.1 hX.2.1 hd (kk ls H locs hl ha hS)⟩
  · cases hr
theorem sn_ishr (hd : decode Y.1 pc = .ok (.ishr, 1)) (h : ab_Sd G Z d Y (pc + 1) k) : ab_Sd G Z d Y pc (o_bin (fun x y => x >>> (y &&& 31)) k) := by
  refine h.step fun lv st w r hr => ?_
  unfold o_bin at hr
  split at hr
  · exact ⟨_, _, w, hr, ab_le.rf, fun p l e R s m args below meth c Q n0 t0 N T hX hR hn ht hN hT kk ls H locs hl ha hS => lv_ishr hX.1 hX.2.1 hd (kk ls H locs hl ha hS)⟩
  · cases hr
theorem sn_iushr (hd : decode Y.1 pc = .ok (.iushr, 1)) (h : ab_Sd G Z d Y (pc + 1) k) : ab_Sd G Z d Y pc (o_bin (fun x y => (x.toUInt32 >>> (y.toUInt32 &&& Int32.toUInt32 31)).toInt32) k) := by
  refine h.step fun lv st w r hr => ?_
  unfold o_bin at hr
  split at hr
  · exact ⟨_, _, w, hr, ab_le.rf, fun p l e R s m args below meth c Q n0 t0 N T hX hR hn ht hN hT kk ls H locs hl ha hS => lv_iushr hX.1 hX.2.1 hd rfl (kk ls H locs hl ha hS)⟩
  · cases hr
theorem sn_idiv (hd : decode Y.1 pc = .ok (.idiv, 1)) (h : ab_Sd G Z d Y (pc + 1) k) : ab_Sd G Z d Y pc (o_div (fun x y => x / y) k) := by
  refine h.step fun lv st w r hr => ?_
  unfold o_div at hr
  split at hr
  · split at hr
    · cases hr
    · rename_i hne
      exact ⟨_, _, w, hr, ab_le.rf, fun p l e R s m args below meth c Q n0 t0 N T hX hR hn ht hN hT kk ls H locs hl ha hS => lv_idiv hX.1 hX.2.1 hd hne (kk ls H locs hl ha hS)⟩
  · cases hr
theorem sn_irem (hd : decode Y.1 pc = .ok (.irem, 1)) (h : ab_Sd G Z d Y (pc + 1) k) : ab_Sd G Z d Y pc (o_div (fun x y => x - x / y * y) k) := by
  refine h.step fun lv st w r hr => ?_
  unfold o_div at hr
  split at hr
  · split at hr
    · cases hr
    · rename_i hne
      exact ⟨_, _, w, hr, ab_le.rf, fun p l e R s m args below meth c Q n0 t0 N T hX hR hn ht hN hT kk ls H locs hl ha hS => lv_irem hX.1 hX.2.1 hd hne (kk ls H locs hl ha hS)⟩
  · cases hr
theorem sn_i2s (hd : decode Y.1 pc = .ok (.i2s, 1)) (h : ab_Sd G Z d Y (pc + 1) k) : ab_Sd G Z d Y pc (o_un (fun x => x.toInt16.toInt32) k) := by
  refine h.step fun lv st w r hr => ?_
  unfold o_un at hr
  split at hr
  · exact ⟨_, _, w, hr, ab_le.rf, fun p l e R s m args below meth c Q n0 t0 N T hX hR hn ht hN hT kk ls H locs hl ha hS => lv_i2s hX.1 hX.2.1 hd rfl (kk ls H locs hl ha hS)⟩
  · cases hr
theorem sn_i2c (hd : decode Y.1 pc = .ok (.i2c, 1)) (h : ab_Sd G Z d Y (pc + 1) k) : ab_Sd G Z d Y pc (o_un (fun x => (x.toUInt32 % 65536).toInt32) k) := by
  refine h.step fun lv st w r hr => ?_
  unfold o_un at hr
  split at hr
  · exact ⟨_, _, w, hr, ab_le.rf, fun p l e R s m args below meth c Q n0 t0 N T hX hR hn ht hN hT kk ls H locs hl ha hS => lv_i2c hX.1 hX.2.1 hd rfl (kk ls H locs hl ha hS)⟩
  · cases hr
theorem sn_i2b (hd : decode Y.1 pc = .ok (.i2b, 1)) (h : ab_Sd G Z d Y (pc + 1) k) : ab_Sd G Z d Y pc (o_un (fun x => x.toInt8.toInt32) k) := by
  refine h.step fun lv st w r hr => ?_
  unfold o_un at hr
  split at hr
  · exact ⟨_, _, w, hr, ab_le.rf, fun p l e R s m args below meth c Q n0 t0 N T hX hR hn ht hN hT kk ls H locs hl ha hS => lv_i2b hX.1 hX.2.1 hd rfl (kk ls H locs hl ha hS)⟩
  · cases hr
theorem sn_dup (hd : decode Y.1 pc = .ok (.dup, 1)) (h : ab_Sd G Z d Y (pc + 1) k) : ab_Sd G Z d Y pc (o_dup k) := by
  refine h.step fun lv st w r hr => ?_
  unfold o_dup at hr
  split at hr
  · split at hr
    · rename_i hc
      exact ⟨_, _, w, hr, ab_le.rf, fun p l e R s m args below meth c Q n0 t0 N T hX hR hn ht hN hT kk ls H locs hl ha hS => lv_dup hX.1 hX.2.1 hd ((ab_cv_cat G _).trans hc) (kk ls H locs hl ha hS)⟩
    · cases hr
  · cases hr
theorem sn_dup2 (hd : decode Y.1 pc = .ok (.dup2, 1)) (h : ab_Sd G Z d Y (pc + 1) k) : ab_Sd G Z d Y pc (o_dup2 k) := by
  refine h.step fun lv st w r hr => ?_
  unfold o_dup2 at hr
  split at hr
  · split at hr
    · rename_i hc
      exact ⟨_, _, w, hr, ab_le.rf, fun p l e R s m args below meth c Q n0 t0 N T hX hR hn ht hN hT kk ls H locs hl ha hS => lv_dup2_11 hX.1 hX.2.1 hd ((ab_cv_cat G _).trans hc.1) ((ab_cv_cat G _).trans hc.2) (kk ls H locs hl ha hS)⟩
    · cases hr
  · cases hr
theorem sn_pop (hd : decode Y.1 pc = .ok (.pop, 1)) (h : ab_Sd G Z d Y (pc + 1) k) : ab_Sd G Z d Y pc (o_pop k) := by
  refine h.step fun lv st w r hr => ?_
  unfold o_pop at hr
  split at hr
  · split at hr
    · rename_i hc
      exact ⟨_, _, w, hr, ab_le.rf, fun p l e R s m args below meth c Q n0 t0 N T hX hR hn ht hN hT kk ls H locs hl ha hS => lv_pop hX.1 hX.2.1 hd ((ab_cv_cat G _).trans hc) (kk ls H locs hl ha hS)⟩
    · cases hr
  · cases hr
theorem sn_if_eq {off : Int} {tg b : Nat} (hd : decode Y.1 pc = .ok (.ifCond .eq off, 3)) (ht : (pc : Int) + off = (tg : Int)) (hb : Y.2.2.2.2.2[b]? = some tg) (h : ab_Sd G Z d Y (pc + 3) k) : ab_Sd G Z d Y pc (o_if (fun x => decide (x = 0)) b k) := by
  refine h.br fun lv st w r hr => ?_
  unfold o_if at hr
  split at hr
  · split at hr
    · rename_i hc
      have hc2 := of_decide_eq_true hc
      refine Or.inl ⟨b, lv, _, tg, (Option.some.inj hr).symm, hb, fun p l e R s m args below meth c Q n0 t0 hX kk ls H locs hl ha hS => lv_if_eq hX.1 hX.2.1 hd ht (fun _ => kk ls H locs hl ha hS) (fun hn => absurd hc2 hn)⟩
    · rename_i hc
      have hc2 := of_decide_eq_false (Bool.eq_false_iff.mpr hc)
      exact Or.inr ⟨lv, _, hr, fun p l e R s m args below meth c Q n0 t0 hX kk ls H locs hl ha hS => lv_if_eq hX.1 hX.2.1 hd ht (fun hn => absurd hn hc2) (fun _ => kk ls H locs hl ha hS)⟩
  · cases hr
theorem sn_cmp_eq {off : Int} {tg b : Nat} (hd : decode Y.1 pc = .ok (.if_icmp .eq off, 3)) (ht : (pc : Int) + off = (tg : Int)) (hb : Y.2.2.2.2.2[b]? = some tg) (h : ab_Sd G Z d Y (pc + 3) k) : ab_Sd G Z d Y pc (o_cmp (fun x y => decide (x = y)) b k) := by
  refine h.br fun lv st w r hr => ?_
  unfold o_cmp at hr
  split at hr
  · split at hr
    · rename_i hc
      have hc2 := of_decide_eq_true hc
      refine Or.inl ⟨b, lv, _, tg, (Option.some.inj hr).symm, hb, fun p l e R s m args below meth c Q n0 t0 hX kk ls H locs hl ha hS => lv_icmp_eq hX.1 hX.2.1 hd ht (fun _ => kk ls H locs hl ha hS) (fun hn => absurd hc2 hn)⟩
    · rename_i hc
      have hc2 := of_decide_eq_false (Bool.eq_false_iff.mpr hc)
      exact Or.inr ⟨lv, _, hr, fun p l e R s m args below meth c Q n0 t0 hX kk ls H locs hl ha hS => lv_icmp_eq hX.1 hX.2.1 hd ht (fun hn => absurd hn hc2) (fun _ => kk ls H locs hl ha hS)⟩
  · cases hr
theorem sn_if_ne {off : Int} {tg b : Nat} (hd : decode Y.1 pc = .ok (.ifCond .ne off, 3)) (ht : (pc : Int) + off = (tg : Int)) (hb : Y.2.2.2.2.2[b]? = some tg) (h : ab_Sd G Z d Y (pc + 3) k) : ab_Sd G Z d Y pc (o_if (fun x => decide (¬ x = 0)) b k) := by
  refine h.br fun lv st w r hr => ?_
  unfold o_if at hr
  split at hr
  · split at hr
    · rename_i hc
      have hc2 := of_decide_eq_true hc
      refine Or.inl ⟨b, lv, _, tg, (Option.some.inj hr).symm, hb, fun p l e R s m args below meth c Q n0 t0 hX kk ls H locs hl ha hS => lv_if_ne hX.1 hX.2.1 hd ht (fun _ => kk ls H locs hl ha hS) (fun hn => absurd hn hc2)⟩
    · rename_i hc
      have hc2 := of_decide_eq_false (Bool.eq_false_iff.mpr hc)
      exact Or.inr ⟨lv, _, hr, fun p l e R s m args below meth c Q n0 t0 hX kk ls H locs hl ha hS => lv_if_ne hX.1 hX.2.1 hd ht (fun hn => absurd hn hc2) (fun _ => kk ls H locs hl ha hS)⟩
  · cases hr
theorem sn_cmp_ne {off : Int} {tg b : Nat} (hd : decode Y.1 pc = .ok (.if_icmp .ne off, 3)) (ht : (pc : Int) + off = (tg : Int)) (hb : Y.2.2.2.2.2[b]? = some tg) (h : ab_Sd G Z d Y (pc + 3) k) : ab_Sd G Z d Y pc (o_cmp (fun x y => decide (¬ x = y)) b k) := by
  refine h.br fun lv st w r hr => ?_
  unfold o_cmp at hr
  split at hr
  · split at hr
    · rename_i hc
      have hc2 := of_decide_eq_true hc
      refine Or.inl ⟨b, lv, _, tg, (Option.some.inj hr).symm, hb, fun p l e R s m args below meth c Q n0 t0 hX kk ls H locs hl ha hS => lv_icmp_ne hX.1 hX.2.1 hd ht (fun _ => kk ls H locs hl ha hS) (fun hn => absurd hn hc2)⟩
    · rename_i hc
      have hc2 := of_decide_eq_false (Bool.eq_false_iff.mpr hc)
      exact Or.inr ⟨lv, _, hr, fun p l e R s m args below meth c Q n0 t0 hX kk ls H locs hl ha hS => lv_icmp_ne hX.1 hX.2.1 hd ht (fun hn => absurd hn hc2) (fun _ => kk ls H locs hl ha hS)⟩
  · cases hr
theorem sn_if_lt {off : Int} {tg b : Nat} (hd : decode Y.1 pc = .ok (.ifCond .lt off, 3)) (ht : (pc : Int) + off = (tg : Int)) (hb : Y.2.2.2.2.2[b]? = some tg) (h : ab_Sd G Z d Y (pc + 3) k) : ab_Sd G Z d Y pc (o_if (fun x => decide (x < 0)) b k) := by
  refine h.br fun lv st w r hr => ?_
  unfold o_if at hr
  split at hr
  · split at hr
    · rename_i hc
      have hc2 := of_decide_eq_true hc
      refine Or.inl ⟨b, lv, _, tg, (Option.some.inj hr).symm, hb, fun p l e R s m args below meth c Q n0 t0 hX kk ls H locs hl ha hS => lv_if_lt hX.1 hX.2.1 hd ht (fun _ => kk ls H locs hl ha hS) (fun hn => absurd hc2 hn)⟩
    · rename_i hc
      have hc2 := of_decide_eq_false (Bool.eq_false_iff.mpr hc)
      exact Or.inr ⟨lv, _, hr, fun p l e R s m args below meth c Q n0 t0 hX kk ls H locs hl ha hS => lv_if_lt hX.1 hX.2.1 hd ht (fun hn => absurd hn hc2) (fun _ => kk ls H locs hl ha hS)⟩
  · cases hr
theorem sn_cmp_lt {off : Int} {tg b : Nat} (hd : decode Y.1 pc = .ok (.if_icmp .lt off, 3)) (ht : (pc : Int) + off = (tg : Int)) (hb : Y.2.2.2.2.2[b]? = some tg) (h : ab_Sd G Z d Y (pc + 3) k) : ab_Sd G Z d Y pc (o_cmp (fun x y => decide (x < y)) b k) := by
  refine h.br fun lv st w r hr => ?_
  unfold o_cmp at hr
  split at hr
  · split at hr
    · rename_i hc
      have hc2 := of_decide_eq_true hc
      refine Or.inl ⟨b, lv, _, tg, (Option.some.inj hr).symm, hb, fun p l e R s m args below meth c Q n0 t0 hX kk ls H locs hl ha hS => lv_icmp_lt hX.1 hX.2.1 hd ht (fun _ => kk ls H locs hl ha hS) (fun hn => absurd hc2 hn)⟩
    · rename_i hc
      have hc2 := of_decide_eq_false (Bool.eq_false_iff.mpr hc)
      exact Or.inr ⟨lv, _, hr, fun p l e R s m args below meth c Q n0 t0 hX kk ls H locs hl ha hS => lv_icmp_lt hX.1 hX.2.1 hd ht (fun hn => absurd hn hc2) (fun _ => kk ls H locs hl ha hS)⟩
  · cases hr
theorem sn_if_ge {off : Int} {tg b : Nat} (hd : decode Y.1 pc = .ok (.ifCond .ge off, 3)) (ht : (pc : Int) + off = (tg : Int)) (hb : Y.2.2.2.2.2[b]? = some tg) (h : ab_Sd G Z d Y (pc + 3) k) : ab_Sd G Z d Y pc (o_if (fun x => decide (0 ≤ x)) b k) := by
  refine h.br fun lv st w r hr => ?_
  unfold o_if at hr
  split at hr
  · split at hr
    · rename_i hc
      have hc2 := of_decide_eq_true hc
      refine Or.inl ⟨b, lv, _, tg, (Option.some.inj hr).symm, hb, fun p l e R s m args below meth c Q n0 t0 hX kk ls H locs hl ha hS => lv_if_ge hX.1 hX.2.1 hd ht (fun _ => kk ls H locs hl ha hS) (fun hn => absurd hc2 hn)⟩
    · rename_i hc
      have hc2 := of_decide_eq_false (Bool.eq_false_iff.mpr hc)
      exact Or.inr ⟨lv, _, hr, fun p l e R s m args below meth c Q n0 t0 hX kk ls H locs hl ha hS => lv_if_ge hX.1 hX.2.1 hd ht (fun hn => absurd hn hc2) (fun _ => kk ls H locs hl ha hS)⟩
  · cases hr
theorem sn_cmp_ge {off : Int} {tg b : Nat} (hd : decode Y.1 pc = .ok (.if_icmp .ge off, 3)) (ht : (pc : Int) + off = (tg : Int)) (hb : Y.2.2.2.2.2[b]? = some tg) (h : ab_Sd G Z d Y (pc + 3) k) : ab_Sd G Z d Y pc (o_cmp (fun x y => decide (y ≤ x)) b k) := by
  refine h.br fun lv st w r hr => ?_
  unfold o_cmp at hr
  split at hr
  · split at hr
    · rename_i hc
      have hc2 := of_decide_eq_true hc
      refine Or.inl ⟨b, lv, _, tg, (Option.some.inj hr).symm, hb, fun p l e R s m args below meth c Q n0 t0 hX kk ls H locs hl ha hS => lv_icmp_ge hX.1 hX.2.1 hd ht (fun _ => kk ls H locs hl ha hS) (fun hn => absurd hc2 hn)⟩
    · rename_i hc
      have hc2 := of_decide_eq_false (Bool.eq_false_iff.mpr hc)
      exact Or.inr ⟨lv, _, hr, fun p l e R s m args below meth c Q n0 t0 hX kk ls H locs hl ha hS => lv_icmp_ge hX.1 hX.2.1 hd ht (fun hn => absurd hn hc2) (fun _ => kk ls H locs hl ha hS)⟩
  · cases hr
theorem sn_cmp_gt {off : Int} {tg b : Nat} (hd : decode Y.1 pc = .ok (.if_icmp .gt off, 3)) (ht : (pc : Int) + off = (tg : Int)) (hb : Y.2.2.2.2.2[b]? = some tg) (h : ab_Sd G Z d Y (pc + 3) k) : ab_Sd G Z d Y pc (o_cmp (fun x y => decide (y < x)) b k) := by
  refine h.br fun lv st w r hr => ?_
  unfold o_cmp at hr
  split at hr
  · split at hr
    · rename_i hc
      have hc2 := of_decide_eq_true hc
      refine Or.inl ⟨b, lv, _, tg, (Option.some.inj hr).symm, hb, fun p l e R s m args below meth c Q n0 t0 hX kk ls H locs hl ha hS => lv_icmp_gt hX.1 hX.2.1 hd ht (fun _ => kk ls H locs hl ha hS) (fun hn => absurd hc2 hn)⟩
    · rename_i hc
      have hc2 := of_decide_eq_false (Bool.eq_false_iff.mpr hc)
      exact Or.inr ⟨lv, _, hr, fun p l e R s m args below meth c Q n0 t0 hX kk ls H locs hl ha hS => lv_icmp_gt hX.1 hX.2.1 hd ht (fun hn => absurd hn hc2) (fun _ => kk ls H locs hl ha hS)⟩
  · cases hr
theorem sn_if_le {off : Int} {tg b : Nat} (hd : decode Y.1 pc = .ok (.ifCond .le off, 3)) (ht : (pc : Int) + off = (tg : Int)) (hb : Y.2.2.2.2.2[b]? = some tg) (h : ab_Sd G Z d Y (pc + 3) k) : ab_Sd G Z d Y pc (o_if (fun x => decide (x ≤ 0)) b k) := by
  refine h.br fun lv st w r hr => ?_
  unfold o_if at hr
  split at hr
  · split at hr
    · rename_i hc
      have hc2 := of_decide_eq_true hc
      refine Or.inl ⟨b, lv, _, tg, (Option.some.inj hr).symm, hb, fun p l e R s m args below meth c Q n0 t0 hX kk ls H locs hl ha hS => lv_if_le hX.1 hX.2.1 hd ht (fun _ => kk ls H locs hl ha hS) (fun hn => absurd hc2 hn)⟩
    · rename_i hc
      have hc2 := of_decide_eq_false (Bool.eq_false_iff.mpr hc)
      exact Or.inr ⟨lv, _, hr, fun p l e R s m args below meth c Q n0 t0 hX kk ls H locs hl ha hS => lv_if_le hX.1 hX.2.1 hd ht (fun hn => absurd hn hc2) (fun _ => kk ls H locs hl ha hS)⟩
  · cases hr
theorem sn_cmp_le {off : Int} {tg b : Nat} (hd : decode Y.1 pc = .ok (.if_icmp .le off, 3)) (ht : (pc : Int) + off = (tg : Int)) (hb : Y.2.2.2.2.2[b]? = some tg) (h : ab_Sd G Z d Y (pc + 3) k) : ab_Sd G Z d Y pc (o_cmp (fun x y => decide (x ≤ y)) b k) := by
  refine h.br fun lv st w r hr => ?_
  unfold o_cmp at hr
  split at hr
  · split at hr
    · rename_i hc
      have hc2 := of_decide_eq_true hc
      refine Or.inl ⟨b, lv, _, tg, (Option.some.inj hr).symm, hb, fun p l e R s m args below meth c Q n0 t0 hX kk ls H locs hl ha hS => lv_icmp_le hX.1 hX.2.1 hd ht (fun _ => kk ls H locs hl ha hS) (fun hn => absurd hc2 hn)⟩
    · rename_i hc
      have hc2 := of_decide_eq_false (Bool.eq_false_iff.mpr hc)
      exact Or.inr ⟨lv, _, hr, fun p l e R s m args below meth c Q n0 t0 hX kk ls H locs hl ha hS => lv_icmp_le hX.1 hX.2.1 hd ht (fun hn => absurd hn hc2) (fun _ => kk ls H locs hl ha hS)⟩
  · cases hr
theorem sn_goto {off : Int} {tg b : Nat} (hd : decode Y.1 pc = .ok (.goto off, 3)) (ht : (pc : Int) + off = (tg : Int)) (hb : Y.2.2.2.2.2[b]? = some tg) : ab_Sd G Z d Y pc (o_goto b) :=
  ab_Sd.jmp fun lv st w r hr => ⟨b, lv, st, tg, (Option.some.inj hr).symm, hb, fun p l e R s m args below meth c Q n0 t0 hX kk ls H locs hl ha hS => lv_goto hX.1 hX.2.1 hd ht (kk ls H locs hl ha hS)⟩
/-- no jump: the next block begins here -/
theorem sn_next {b : Nat} (hb : Y.2.2.2.2.2[b]? = some pc) : ab_Sd G Z d Y pc (o_goto b) :=
  ab_Sd.jmp fun lv st w r hr => ⟨b, lv, st, pc, (Option.some.inj hr).symm, hb, fun p l e R s m args below meth c Q n0 t0 hX kk ls H locs hl ha hS => kk ls H locs hl ha hS⟩
theorem sn_ifnull {off : Int} {tg b : Nat} (hd : decode Y.1 pc = .ok (.ifnull off, 3)) (ht : (pc : Int) + off = (tg : Int)) (hb : Y.2.2.2.2.2[b]? = some tg) (h : ab_Sd G Z d Y (pc + 3) k) : ab_Sd G Z d Y pc (o_ifnull b k) := by
  refine h.br fun lv st w r hr => ?_
  unfold o_ifnull at hr
  split at hr
  · exact Or.inl ⟨b, lv, _, tg, (Option.some.inj hr).symm, hb, fun p l e R s m args below meth c Q n0 t0 hX kk ls H locs hl ha hS => lv_ifnullN hX.1 hX.2.1 hd ht (kk ls H locs hl ha hS)⟩
  · exact Or.inr ⟨lv, _, hr, fun p l e R s m args below meth c Q n0 t0 hX kk ls H locs hl ha hS => lv_ifnull hX.1 hX.2.1 hd (kk ls H locs hl ha hS)⟩
  · cases hr
theorem sn_ifnonnull {off : Int} {tg b : Nat} (hd : decode Y.1 pc = .ok (.ifnonnull off, 3)) (ht : (pc : Int) + off = (tg : Int)) (hb : Y.2.2.2.2.2[b]? = some tg) (h : ab_Sd G Z d Y (pc + 3) k) : ab_Sd G Z d Y pc (o_ifnonnull b k) := by
  refine h.br fun lv st w r hr => ?_
  unfold o_ifnonnull at hr
  split at hr
  · exact Or.inl ⟨b, lv, _, tg, (Option.some.inj hr).symm, hb, fun p l e R s m args below meth c Q n0 t0 hX kk ls H locs hl ha hS => lv_ifnonnull hX.1 hX.2.1 hd ht (kk ls H locs hl ha hS)⟩
  · exact Or.inr ⟨lv, _, hr, fun p l e R s m args below meth c Q n0 t0 hX kk ls H locs hl ha hS => lv_ifnonnullN hX.1 hX.2.1 hd (kk ls H locs hl ha hS)⟩
  · cases hr
/-- returns -/
theorem sn_ret {i : Instr} (hd : decode Y.1 pc = .ok (i, 1)) (hi : ∀ v, ab_ok Y.2.2.2.1 v = true → ab_ri v = i) : ab_Sd G Z d Y pc (o_ret Y.2.2.2.1) := by
  refine ⟨fun lv st w r hr => ?_, ?_⟩
  · unfold o_ret at hr
    split at hr
    · split at hr
      · rw [← Option.some.inj hr]; exact ab_le.rf
      · cases hr
    · split at hr
      · rw [← Option.some.inj hr]; exact ab_le.rf
      · cases hr
    · cases hr
  · intro p l e R s m args below meth c Q n0 t0 N T hX hR lv st w r hr hn ht hN hT hG
    unfold o_ret at hr
    split at hr
    · split at hr
      · rename_i hok
        obtain rfl := Option.some.inj hr
        exact fun ls H locs hl ha hS => hG hok pc ls H locs ha hS (by rw [hi _ hok]; exact hd)
      · cases hr
    · split at hr
      · rename_i hok
        obtain rfl := Option.some.inj hr
        exact fun ls H locs hl ha hS => hG hok pc ls H locs ha hS (by rw [hi _ hok]; exact hd)
      · cases hr
    · cases hr
theorem ab_ri_int (v : Option Value) (h : ab_ok (some .int) v = true) : ab_ri v = .ireturn := by
  cases v with
  | none => cases h
  | some v => cases v <;> first | rfl | cases h
theorem ab_ri_bool (v : Option Value) (h : ab_ok (some .boolean) v = true) : ab_ri v = .ireturn := by
  cases v with
  | none => cases h
  | some v => cases v <;> first | rfl | cases h
theorem ab_ri_char (v : Option Value) (h : ab_ok (some .char) v = true) : ab_ri v = .ireturn := by
  cases v with
  | none => cases h
  | some v => cases v <;> first | rfl | cases h
theorem ab_ri_byte (v : Option Value) (h : ab_ok (some .byte) v = true) : ab_ri v = .ireturn := by
  cases v with
  | none => cases h
  | some v => cases v <;> first | rfl | cases h
theorem ab_ri_long (v : Option Value) (h : ab_ok (some .long) v = true) : ab_ri v = .lreturn := by
  cases v with
  | none => cases h
  | some v => cases v <;> first | rfl | cases h
theorem ab_ri_void (v : Option Value) (h : ab_ok none v = true) : ab_ri v = .return_ := by
  cases v with
  | none => rfl
  | some v => cases v <;> cases h
theorem ab_ri_obj {C : String} (v : Option Value) (h : ab_ok (some (.object C)) v = true) : ab_ri v = .areturn := by
  cases v with
  | none => cases h
  | some v => cases v <;> first | rfl | cases h
theorem ab_ri_arr {t : FieldType} (v : Option Value) (h : ab_ok (some (.array t)) v = true) : ab_ri v = .areturn := by
  cases v with
  | none => cases h
  | some v => cases v <;> first | rfl | cases h
end ABO2
