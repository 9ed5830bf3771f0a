section
section ABO2
variable {G : ab_G} {Z : State → Prop} {d : Nat} {Y : ab_Y} {pc : Nat} {k : ab_K}
theorem sn_iadd (hd : decode Y.1 pc = .ok (.iadd, 1)) (h : ab_Sd G Z d Y (pc + 1) k) : ab_Sd G Z d Y pc (o_bin (fun x y => x + y) k) := by
  refine h.step fun lv st w r hr => ?_
  unfold o_bin at hr
  split at hr
  · exact ⟨_, _, w, hr, ab_le.rf, fun p l e R s m args below meth c Q n0 t0 N T hX hR hn ht hN hT kk ls H locs hl ha hS => lv_iadd hX.1 hX.2.1 hd (kk ls H locs hl ha hS)⟩
  · cases hr
theorem sn_isub (hd : decode Y.1 pc = .ok (.isub, 1)) (h : ab_Sd G Z d Y (pc + 1) k) : ab_Sd G Z d Y pc (o_bin (fun x y => x - y) k) := by
  refine h.step fun lv st w r hr => ?_
  unfold o_bin at hr
  split at hr
  · exact ⟨_, _, w, hr, ab_le.rf, fun p l e R s m args below meth c Q n0 t0 N T hX hR hn ht hN hT kk ls H locs hl ha hS => lv_isub hX.1 hX.2.1 hd (kk ls H locs hl ha hS)⟩
  · cases hr
theorem sn_imul (hd : decode Y.1 pc = .ok (.imul, 1)) (h : ab_Sd G Z d Y (pc + 1) k) : ab_Sd G Z d Y pc (o_bin (fun x y => x * y) k) := by
  refine h.step fun lv st w r hr => ?_
  unfold o_bin at hr
  split at hr
  · exact ⟨_, _, w, hr, ab_le.rf, fun p l e R s m args below meth c Q n0 t0 N T hX hR hn ht hN hT kk ls H locs hl ha hS => lv_imul hX.1 hX.2.1 hd (kk ls H locs hl ha hS)⟩
  · cases hr
theorem sn_iand (hd : decode Y.1 pc = .ok (.iand, 1)) (h : ab_Sd G Z d Y (pc + 1) k) : ab_Sd G Z d Y pc (o_bin (fun x y => x &&& y) k) := by
  refine h.step fun lv st w r hr => ?_
  unfold o_bin at hr
  split at hr
  · exact ⟨_, _, w, hr, ab_le.rf, fun p l e R s m args below meth c Q n0 t0 N T hX hR hn ht hN hT kk ls H locs hl ha hS => lv_iand hX.1 hX.2.1 hd (kk ls H locs hl ha hS)⟩
  · cases hr
theorem sn_ior (hd : decode Y.1 pc = .ok (.ior, 1)) (h : ab_Sd G Z d Y (pc + 1) k) : ab_Sd G Z d Y pc (o_bin (fun x y => x ||| y) k) := by
  refine h.step fun lv st w r hr => ?_
  unfold o_bin at hr
  split at hr
  · exact ⟨_, _, w, hr, ab_le.rf, fun p l e R s m args below meth c Q n0 t0 N T hX hR hn ht hN hT kk ls H locs hl ha hS => lv_ior hX.1 hX.2.1 hd (kk ls H locs hl ha hS)⟩
  · cases hr
theorem sn_ixor (hd : decode Y.1 pc = .ok (.ixor, 1)) (h : ab_Sd G Z d Y (pc + 1) k) : ab_Sd G Z d Y pc (o_bin (fun x y => x ^^^ y) k) := by
  refine h.step fun lv st w r hr => ?_
  unfold o_bin at hr
  split at hr
  · exact ⟨_, _, w, hr, ab_le.rf, fun p l e R s m args below meth c Q n0 t0 N T hX hR hn ht hN hT kk ls H locs hl ha hS => lv_ixor hX.1 hX.2.1 hd (kk ls H locs hl ha hS)⟩
  · cases hr
theorem sn_ishl (hd : decode Y.1 pc = .ok (.ishl, 1)) (h : ab_Sd G Z d Y (pc + 1) k) : ab_Sd G Z d Y pc (o_bin (fun x y => x <<< (y &&& 31)) k) := by
  refine h.step fun lv st w r hr => ?_
  unfold o_bin at hr
  split at hr
  · exact ⟨_, _, w, hr, ab_le.rf, fun p l e R s m args below meth c Q n0 t0 N T hX hR hn ht hN hT kk ls H locs hl ha hS => lv_ishl hX.1 hX.2.1 hd (kk ls H locs hl ha hS)⟩
  · cases hr
theorem sn_ishr (hd : decode Y.1 pc = .ok (.ishr, 1)) (h : ab_Sd G Z d Y (pc + 1) k) : ab_Sd G Z d Y pc (o_bin (fun x y => x >>> (y &&& 31)) k) := by
  refine h.step fun lv st w r hr => ?_
  unfold o_bin at hr
  split at hr
  · exact ⟨_, _, w, hr, ab_le.rf, fun p l e R s m args below meth c Q n0 t0 N T hX hR hn ht hN hT kk ls H locs hl ha hS => lv_ishr hX.1 hX.2.1 hd (kk ls H locs hl ha hS)⟩
  · cases hr
theorem sn_iushr (hd : decode Y.1 pc = .ok (.iushr, 1)) (h : ab_Sd G Z d Y (pc + 1) k) : ab_Sd G Z d Y pc (o_bin (fun x y => (x.toUInt32 >>> (y.toUInt32 &&& Int32.toUInt32 31)).toInt32) k) := by
  refine h.step fun lv st w r hr => ?_
  unfold o_bin at hr
  split at hr
  · exact ⟨_, _, w, hr, ab_le.rf, fun p l e R s m args below meth c Q n0 t0 N T hX hR hn ht hN hT kk ls H locs hl ha hS => lv_iushr hX.1 hX.2.1 hd rfl (kk ls H locs hl ha hS)⟩
  · cases hr
theorem sn_idiv (hd : decode Y.1 pc = .ok (.idiv, 1)) (h : ab_Sd G Z d Y (pc + 1) k) : ab_Sd G Z d Y pc (o_div (fun x y => x / y) k) := by
  refine h.step fun lv st w r hr => ?_
  unfold o_div at hr
  split at hr
  · split at hr
    · cases hr
    · rename_i hne
      exact ⟨_, _, w, hr, ab_le.rf, fun p l e R s m args below meth c Q n0 t0 N T hX hR hn ht hN hT kk ls H locs hl ha hS => lv_idiv hX.1 hX.2.1 hd hne (kk ls H locs hl ha hS)⟩
  · cases hr
theorem sn_irem (hd : decode Y.1 pc = .ok (.irem, 1)) (h : ab_Sd G Z d Y (pc + 1) k) : ab_Sd G Z d Y pc (o_div (fun x y => x - x / y * y) k) := by
  refine h.step fun lv st w r hr => ?_
  unfold o_div at hr
  split at hr
  · split at hr
    · cases hr
    · rename_i hne
      exact ⟨_, _, w, hr, ab_le.rf, fun p l e R s m args below meth c Q n0 t0 N T hX hR hn ht hN hT kk ls H locs hl ha hS => lv_irem hX.1 hX.2.1 hd hne (kk ls H locs hl ha hS)⟩
  · cases hr
theorem sn_i2s (hd : decode Y.1 pc = .ok (.i2s, 1)) (h : ab_Sd G Z d Y (pc + 1) k) : ab_Sd G Z d Y pc (o_un (fun x => x.toInt16.toInt32) k) := by
  refine h.step fun lv st w r hr => ?_
  unfold o_un at hr
  split at hr
  · exact ⟨_, _, w, hr, ab_le.rf, fun p l e R s m args below meth c Q n0 t0 N T hX hR hn ht hN hT kk ls H locs hl ha hS => lv_i2s hX.1 hX.2.1 hd rfl (kk ls H locs hl ha hS)⟩
  · cases hr
theorem sn_i2c (hd : decode Y.1 pc = .ok (.i2c, 1)) (h : ab_Sd G Z d Y (pc + 1) k) : ab_Sd G Z d Y pc (o_un (fun x => (x.toUInt32 % 65536).toInt32) k) := by
  refine h.step fun lv st w r hr => ?_
  unfold o_un at hr
  split at hr
  · exact ⟨_, _, w, hr, ab_le.rf, fun p l e R s m args below meth c Q n0 t0 N T hX hR hn ht hN hT kk ls H locs hl ha hS => lv_i2c hX.1 hX.2.1 hd rfl (kk ls H locs hl ha hS)⟩
  · cases hr
theorem sn_i2b (hd : decode Y.1 pc = .ok (.i2b, 1)) (h : ab_Sd G Z d Y (pc + 1) k) : ab_Sd G Z d Y pc (o_un (fun x => x.toInt8.toInt32) k) := by
  refine h.step fun lv st w r hr => ?_
  unfold o_un at hr
  split at hr
  · exact ⟨_, _, w, hr, ab_le.rf, fun p l e R s m args below meth c Q n0 t0 N T hX hR hn ht hN hT kk ls H locs hl ha hS => lv_i2b hX.1 hX.2.1 hd rfl (kk ls H locs hl ha hS)⟩
  · cases hr
theorem sn_dup (hd : decode Y.1 pc = .ok (.dup, 1)) (h : ab_Sd G Z d Y (pc + 1) k) : ab_Sd G Z d Y pc (o_dup k) := by
  refine h.step fun lv st w r hr => ?_
  unfold o_dup at hr
  split at hr
  · split at hr
    · rename_i hc
      exact ⟨_, _, w, hr, ab_le.rf, fun p l e R s m args below meth c Q n0 t0 N T hX hR hn ht hN hT kk ls H locs hl ha hS => lv_dup hX.1 hX.2.1 hd ((ab_cv_cat G _).trans hc) (kk ls H locs hl ha hS)⟩
    · cases hr
  · cases hr
theorem sn_dup2 (hd : decode Y.1 pc = .ok (.dup2, 1)) (h : ab_Sd G Z d Y (pc + 1) k) : ab_Sd G Z d Y pc (o_dup2 k) := by
  refine h.step fun lv st w r hr => ?_
  unfold o_dup2 at hr
  split at hr
  · split at hr
    · rename_i hc
      exact ⟨_, _, w, hr, ab_le.rf, fun p l e R s m args below meth c Q n0 t0 N T hX hR hn ht hN hT kk ls H locs hl ha hS => lv_dup2_11 hX.1 hX.2.1 hd ((ab_cv_cat G _).trans hc.1) ((ab_cv_cat G _).trans hc.2) (kk ls H locs hl ha hS)⟩
    · cases hr
  · cases hr
theorem sn_pop (hd : decode Y.1 pc = .ok (.pop, 1)) (h : ab_Sd G Z d Y (pc + 1) k) : ab_Sd G Z d Y pc (o_pop k) := by
  refine h.step fun lv st w r hr => ?_
  unfold o_pop at hr
  split at hr
  · split at hr
    · rename_i hc
      exact ⟨_, _, w, hr, ab_le.rf, fun p l e R s m args below meth c Q n0 t0 N T hX hR hn ht hN hT kk ls H locs hl ha hS => lv_pop hX.1 hX.2.1 hd ((ab_cv_cat G _).trans hc) (kk ls H locs hl ha hS)⟩
    · cases hr
  · cases hr
theorem sn_if_eq {off : Int} {tg b : Nat} (hd : decode Y.1 pc = .ok (.ifCond .eq off, 3)) (ht : (pc : Int) + off = (tg : Int)) (hb : Y.2.2.2.2.2[b]? = some tg) (h : ab_Sd G Z d Y (pc + 3) k) : ab_Sd G Z d Y pc (o_if (fun x => decide (x = 0)) b k) := by
  refine h.br fun lv st w r hr => ?_
  unfold o_if at hr
  split at hr
  · split at hr
    · rename_i hc
      have hc2 := of_decide_eq_true hc
      refine Or.inl ⟨b, lv, _, tg, (Option.some.inj hr).symm, hb, fun p l e R s m args below meth c Q n0 t0 hX kk ls H locs hl ha hS => lv_if_eq hX.1 hX.2.1 hd ht (fun _ => kk ls H locs hl ha hS) (fun hn => absurd hc2 hn)⟩
    · rename_i hc
      have hc2 := of_decide_eq_false (Bool.eq_false_iff.mpr hc)
      exact Or.inr ⟨lv, _, hr, fun p l e R s m args below meth c Q n0 t0 hX kk ls H locs hl ha hS => lv_if_eq hX.1 hX.2.1 hd ht (fun hn => absurd hn hc2) (fun _ => kk ls H locs hl ha hS)⟩
  · cases hr
theorem sn_cmp_eq {off : Int} {tg b : Nat} (hd : decode Y.1 pc = .ok (.if_icmp .eq off, 3)) (ht : (pc : Int) + off = (tg : Int)) (hb : Y.2.2.2.2.2[b]? = some tg) (h : ab_Sd G Z d Y (pc + 3) k) : ab_Sd G Z d Y pc (o_cmp (fun x y => decide (x = y)) b k) := by
  refine h.br fun lv st w r hr => ?_
  unfold o_cmp at hr
  split at hr
  · split at hr
    · rename_i hc
      have hc2 := of_decide_eq_true hc
      refine Or.inl ⟨b, lv, _, tg, (Option.some.inj hr).symm, hb, fun p l e R s m args below meth c Q n0 t0 hX kk ls H locs hl ha hS => lv_icmp_eq hX.1 hX.2.1 hd ht (fun _ => kk ls H locs hl ha hS) (fun hn => absurd hc2 hn)⟩
    · rename_i hc
      have hc2 := of_decide_eq_false (Bool.eq_false_iff.mpr hc)
      exact Or.inr ⟨lv, _, hr, fun p l e R s m args below meth c Q n0 t0 hX kk ls H locs hl ha hS => lv_icmp_eq hX.1 hX.2.1 hd ht (fun hn => absurd hn hc2) (fun _ => kk ls H locs hl ha hS)⟩
  · cases hr
theorem sn_if_ne {off : Int} {tg b : Nat} (hd : decode Y.1 pc = .ok (.ifCond .ne off, 3)) (ht : (pc : Int) + off = (tg : Int)) (hb : Y.2.2.2.2.2[b]? = some tg) (h : ab_Sd G Z d Y (pc + 3) k) : ab_Sd G Z d Y pc (o_if (fun x => decide (¬ x = 0)) b k) := by
  refine h.br fun lv st w r hr => ?_
  unfold o_if at hr
  split at hr
  · split at hr
    · rename_i hc
      have hc2 := of_decide_eq_true hc
      refine Or.inl ⟨b, lv, _, tg, (Option.some.inj hr).symm, hb, fun p l e R s m args below meth c Q n0 t0 hX kk ls H locs hl ha hS => lv_if_ne hX.1 hX.2.1 hd ht (fun _ => kk ls H locs hl ha hS) (fun hn => absurd hn hc2)⟩
    · rename_i hc
      have hc2 := of_decide_eq_false (Bool.eq_false_iff.mpr hc)
      exact Or.inr ⟨lv, _, hr, fun p l e R s m args below meth c Q n0 t0 hX kk ls H locs hl ha hS => lv_if_ne hX.1 hX.2.1 hd ht (fun hn => absurd hn hc2) (fun _ => kk ls H locs hl ha hS)⟩
  · cases hr
theorem sn_cmp_ne {off : Int} {tg b : Nat} (hd : decode Y.1 pc = .ok (.if_icmp .ne off, 3)) (ht : (pc : Int) + off = (tg : Int)) (hb : Y.2.2.2.2.2[b]? = some tg) (h : ab_Sd G Z d Y (pc + 3) k) : ab_Sd G Z d Y pc (o_cmp (fun x y => decide (¬ x = y)) b k) := by
  refine h.br fun lv st w r hr => ?_
  unfold o_cmp at hr
  split at hr
  · split at hr
    · rename_i hc
      have hc2 := of_decide_eq_true hc
      refine Or.inl ⟨b, lv, _, tg, (Option.some.inj hr).symm, hb, fun p l e R s m args below meth c Q n0 t0 hX kk ls H locs hl ha hS => lv_icmp_ne hX.1 hX.2.1 hd ht (fun _ => kk ls H locs hl ha hS) (fun hn => absurd hn hc2)⟩
    · rename_i hc
      have hc2 := of_decide_eq_false (Bool.eq_false_iff.mpr hc)
      exact Or.inr ⟨lv, _, hr, fun p l e R s m args below meth c Q n0 t0 hX kk ls H locs hl ha hS => lv_icmp_ne hX.1 hX.2.1 hd ht (fun hn => absurd hn hc2) (fun _ => kk ls H locs hl ha hS)⟩
  · cases hr
theorem sn_if_lt {off : Int} {tg b : Nat} (hd : decode Y.1 pc = .ok (.ifCond .lt off, 3)) (ht : (pc : Int) + off = (tg : Int)) (hb : Y.2.2.2.2.2[b]? = some tg) (h : ab_Sd G Z d Y (pc + 3) k) : ab_Sd G Z d Y pc (o_if (fun x => decide (x < 0)) b k) := by
  refine h.br fun lv st w r hr => ?_
  unfold o_if at hr
  split at hr
  · split at hr
    · rename_i hc
      have hc2 := of_decide_eq_true hc
      refine Or.inl ⟨b, lv, _, tg, (Option.some.inj hr).symm, hb, fun p l e R s m args below meth c Q n0 t0 hX kk ls H locs hl ha hS => lv_if_lt hX.1 hX.2.1 hd ht (fun _ => kk ls H locs hl ha hS) (fun hn => absurd hc2 hn)⟩
    · rename_i hc
      have hc2 := of_decide_eq_false (Bool.eq_false_iff.mpr hc)
      exact Or.inr ⟨lv, _, hr, fun p l e R s m args below meth c Q n0 t0 hX kk ls H locs hl ha hS => lv_if_lt hX.1 hX.2.1 hd ht (fun hn => absurd hn hc2) (fun _ => kk ls H locs hl ha hS)⟩
  · cases hr
theorem sn_cmp_lt {off : Int} {tg b : Nat} (hd : decode Y.1 pc = .ok (.if_icmp .lt off, 3)) (ht : (pc : Int) + off = (tg : Int)) (hb : Y.2.2.2.2.2[b]? = some tg) (h : ab_Sd G Z d Y (pc + 3) k) : ab_Sd G Z d Y pc (o_cmp (fun x y => decide (x < y)) b k) := by
  refine h.br fun lv st w r hr => ?_
  unfold o_cmp at hr
  split at hr
  · split at hr
    · rename_i hc
      have hc2 := of_decide_eq_true hc
      refine Or.inl ⟨b, lv, _, tg, (Option.some.inj hr).symm, hb, fun p l e R s m args below meth c Q n0 t0 hX kk ls H locs hl ha hS => lv_icmp_lt hX.1 hX.2.1 hd ht (fun _ => kk ls H locs hl ha hS) (fun hn => absurd hc2 hn)⟩
    · rename_i hc
      have hc2 := of_decide_eq_false (Bool.eq_false_iff.mpr hc)
      exact Or.inr ⟨lv, _, hr, fun p l e R s m args below meth c Q n0 t0 hX kk ls H locs hl ha hS => lv_icmp_lt hX.1 hX.2.1 hd ht (fun hn => absurd hn hc2) (fun _ => kk ls H locs hl ha hS)⟩
  · cases hr
theorem sn_if_ge {off : Int} {tg b : Nat} (hd : decode Y.1 pc = .ok (.ifCond .ge off, 3)) (ht : (pc : Int) + off = (tg : Int)) (hb : Y.2.2.2.2.2[b]? = some tg) (h : ab_Sd G Z d Y (pc + 3) k) : ab_Sd G Z d Y pc (o_if (fun x => decide (0 ≤ x)) b k) := by
  refine h.br fun lv st w r hr => ?_
  unfold o_if at hr
  split at hr
  · split at hr
    · rename_i hc
      have hc2 := of_decide_eq_true hc
      refine Or.inl ⟨b, lv, _, tg, (Option.some.inj hr).symm, hb, fun p l e R s m args below meth c Q n0 t0 hX kk ls H locs hl ha hS => lv_if_ge hX.1 hX.2.1 hd ht (fun _ => kk ls H locs hl ha hS) (fun hn => absurd hc2 hn)⟩
    · rename_i hc
      have hc2 := of_decide_eq_false (Bool.eq_false_iff.mpr hc)
      exact Or.inr ⟨lv, _, hr, fun p l e R s m args below meth c Q n0 t0 hX kk ls H locs hl ha hS => lv_if_ge hX.1 hX.2.1 hd ht (fun hn => absurd hn hc2) (fun _ => kk ls H locs hl ha hS)⟩
  · cases hr
theorem sn_cmp_ge {off : Int} {tg b : Nat} (hd : decode Y.1 pc = .ok (.if_icmp .ge off, 3)) (ht : (pc : Int) + off = (tg : Int)) (hb : Y.2.2.2.2.2[b]? = some tg) (h : ab_Sd G Z d Y (pc + 3) k) : ab_Sd G Z d Y pc (o_cmp (fun x y => decide (y ≤ x)) b k) := by
  refine h.br fun lv st w r hr => ?_
  unfold o_cmp at hr
  split at hr
  · split at hr
    · rename_i hc
      have hc2 := of_decide_eq_true hc
      refine Or.inl ⟨b, lv, _, tg, (Option.some.inj hr).symm, hb, fun p l e R s m args below meth c Q n0 t0 hX kk ls H locs hl ha hS => lv_icmp_ge hX.1 hX.2.1 hd ht (fun _ => kk ls H locs hl ha hS) (fun hn => absurd hc2 hn)⟩
    · rename_i hc
      have hc2 := of_decide_eq_false (Bool.eq_false_iff.mpr hc)
      exact Or.inr ⟨lv, _, hr, fun p l e R s m args below meth c Q n0 t0 hX kk ls H locs hl ha hS => lv_icmp_ge hX.1 hX.2.1 hd ht (fun hn => absurd hn hc2) (fun _ => kk ls H locs hl ha hS)⟩
  · cases hr
theorem sn_cmp_gt {off : Int} {tg b : Nat} (hd : decode Y.1 pc = .ok (.if_icmp .gt off, 3)) (ht : (pc : Int) + off = (tg : Int)) (hb : Y.2.2.2.2.2[b]? = some tg) (h : ab_Sd G Z d Y (pc + 3) k) : ab_Sd G Z d Y pc (o_cmp (fun x y => decide (y < x)) b k) := by
  refine h.br fun lv st w r hr => ?_
  unfold o_cmp at hr
  split at hr
  · split at hr
    · rename_i hc
      have hc2 := of_decide_eq_true hc
      refine Or.inl ⟨b, lv, _, tg, (Option.some.inj hr).symm, hb, fun p l e R s m args below meth c Q n0 t0 hX kk ls H locs hl ha hS => lv_icmp_gt hX.1 hX.2.1 hd ht (fun _ => kk ls H locs hl ha hS) (fun hn => absurd hc2 hn)⟩
    · rename_i hc
      have hc2 := of_decide_eq_false (Bool.eq_false_iff.mpr hc)
      exact Or.inr ⟨lv, _, hr, fun p l e R s m args below meth c Q n0 t0 hX kk ls H locs hl ha hS => lv_icmp_gt hX.1 hX.2.1 hd ht (fun hn => absurd hn hc2) (fun _ => kk ls H locs hl ha hS)⟩
  · cases hr
theorem sn_if_le {off : Int} {tg b : Nat} (hd : decode Y.1 pc = .ok (.ifCond .le off, 3)) (ht : (pc : Int) + off = (tg : Int)) (hb : Y.2.2.2.2.2[b]? = some tg) (h : ab_Sd G Z d Y (pc + 3) k) : ab_Sd G Z d Y pc (o_if (fun x => decide (x ≤ 0)) b k) := by
  refine h.br fun lv st w r hr => ?_
  unfold o_if at hr
  split at hr
  · split at hr
    · rename_i hc
      have hc2 := of_decide_eq_true hc
      refine Or.inl ⟨b, lv, _, tg, (Option.some.inj hr).symm, hb, fun p l e R s m args below meth c Q n0 t0 hX kk ls H locs hl ha hS => lv_if_le hX.1 hX.2.1 hd ht (fun _ => kk ls H locs hl ha hS) (fun hn => absurd hc2 hn)⟩
    · rename_i hc
      have hc2 := of_decide_eq_false (Bool.eq_false_iff.mpr hc)
      exact Or.inr ⟨lv, _, hr, fun p l e R s m args below meth c Q n0 t0 hX kk ls H locs hl ha hS => lv_if_le hX.1 hX.2.1 hd ht (fun hn => absurd hn hc2) (fun _ => kk ls H locs hl ha hS)⟩
  · cases hr
theorem sn_cmp_le {off : Int} {tg b : Nat} (hd : decode Y.1 pc = .ok (.if_icmp .le off, 3)) (ht : (pc : Int) + off = (tg : Int)) (hb : Y.2.2.2.2.2[b]? = some tg) (h : ab_Sd G Z d Y (pc + 3) k) : ab_Sd G Z d Y pc (o_cmp (fun x y => decide (x ≤ y)) b k) := by
  refine h.br fun lv st w r hr => ?_
  unfold o_cmp at hr
  split at hr
  · split at hr
    · rename_i hc
      have hc2 := of_decide_eq_true hc
      refine Or.inl ⟨b, lv, _, tg, (Option.some.inj hr).symm, hb, fun p l e R s m args below meth c Q n0 t0 hX kk ls H locs hl ha hS => lv_icmp_le hX.1 hX.2.1 hd ht (fun _ => kk ls H locs hl ha hS) (fun hn => absurd hc2 hn)⟩
    · rename_i hc
      have hc2 := of_decide_eq_false (Bool.eq_false_iff.mpr hc)
      exact Or.inr ⟨lv, _, hr, fun p l e R s m args below meth c Q n0 t0 hX kk ls H locs hl ha hS => lv_icmp_le hX.1 hX.2.1 hd ht (fun hn => absurd hn hc2) (fun _ => kk ls H locs hl ha hS)⟩
  · cases hr
theorem sn_goto {off : Int} {tg b : Nat} (hd : decode Y.1 pc = .ok (.goto off, 3)) (ht : (pc : Int) + off = (tg : Int)) (hb : Y.2.2.2.2.2[b]? = some tg) : ab_Sd G Z d Y pc (o_goto b) :=
  ab_Sd.jmp fun lv st w r hr => ⟨b, lv, st, tg, (Option.some.inj hr).symm, hb, fun p l e R s m args below meth c Q n0 t0 hX kk ls H locs hl ha hS => lv_goto hX.1 hX.2.1 hd ht (kk ls H locs hl ha hS)⟩
/-- no jump: the next block begins here -/
theorem sn_next {b : Nat} (hb : Y.2.2.2.2.2[b]? = some pc) : ab_Sd G Z d Y pc (o_goto b) :=
  ab_Sd.jmp fun lv st w r hr => ⟨b, lv, st, pc, (Option.some.inj hr).symm, hb, fun p l e R s m args below meth c Q n0 t0 hX kk ls H locs hl ha hS => kk ls H locs hl ha hS⟩
theorem sn_ifnull {off : Int} {tg b : Nat} (hd : decode Y.1 pc = .ok (.ifnull off, 3)) (ht : (pc : Int) + off = (tg : Int)) (hb : Y.2.2.2.2.2[b]? = some tg) (h : ab_Sd G Z d Y (pc + 3) k) : ab_Sd G Z d Y pc (o_ifnull b k) := by
  refine h.br fun lv st w r hr => ?_
  unfold o_ifnull at hr
  split at hr
  · exact Or.inl ⟨b, lv, _, tg, (Option.some.inj hr).symm, hb, fun p l e R s m args below meth c Q n0 t0 hX kk ls H locs hl ha hS => lv_ifnullN hX.1 hX.2.1 hd ht (kk ls H locs hl ha hS)⟩
  · exact Or.inr ⟨lv, _, hr, fun p l e R s m args below meth c Q n0 t0 hX kk ls H locs hl ha hS => lv_ifnull hX.1 hX.2.1 hd (kk ls H locs hl ha hS)⟩
  · cases hr
theorem sn_ifnonnull {off : Int} {tg b : Nat} (hd : decode Y.1 pc = .ok (.ifnonnull off, 3)) (ht : (pc : Int) + off = (tg : Int)) (hb : Y.2.2.2.2.2[b]? = some tg) (h : ab_Sd G Z d Y (pc + 3) k) : ab_Sd G Z d Y pc (o_ifnonnull b k) := by
  refine h.br fun lv st w r hr => ?_
  unfold o_ifnonnull at hr
  split at hr
  · exact Or.inl ⟨b, lv, _, tg, (Option.some.inj hr).symm, hb, fun p l e R s m args below meth c Q n0 t0 hX kk ls H locs hl ha hS => lv_ifnonnull hX.1 hX.2.1 hd ht (kk ls H locs hl ha hS)⟩
  · exact Or.inr ⟨lv, _, hr, fun p l e R s m args below meth c Q n0 t0 hX kk ls H locs hl ha hS => lv_ifnonnullN hX.1 hX.2.1 hd (kk ls H locs hl ha hS)⟩
  · cases hr
/-- returns -/
theorem sn_ret {i : Instr} (hd : decode Y.1 pc = .ok (i, 1)) (hi : ∀ v, ab_ok Y.2.2.2.1 v = true → ab_ri v = i) : ab_Sd G Z d Y pc (o_ret Y.2.2.2.1) := by
  refine ⟨fun lv st w r hr => ?_, ?_⟩
  · unfold o_ret at hr
    split at hr
    · split at hr
      · rw [← Option.some.inj hr]; exact ab_le.rf
      · cases hr
    · split at hr
      · rw [← Option.some.inj hr]; exact ab_le.rf
      · cases hr
    · cases hr
  · intro p l e R s m args below meth c Q n0 t0 N T hX hR lv st w r hr hn ht hN hT hG
    unfold o_ret at hr
    split at hr
    · split at hr
      · rename_i hok
        obtain rfl := Option.some.inj hr
        exact fun ls H locs hl ha hS => hG hok pc ls H locs ha hS (by rw [hi _ hok]; exact hd)
      · cases hr
    · split at hr
      · rename_i hok
        obtain rfl := Option.some.inj hr
        exact fun ls H locs hl ha hS => hG hok pc ls H locs ha hS (by rw [hi _ hok]; exact hd)
      · cases hr
    · cases hr
theorem ab_ri_int (v : Option Value) (h : ab_ok (some .int) v = true) : ab_ri v = .ireturn := by
  cases v with
  | none => cases h
  | some v => cases v <;> first | rfl | cases h
theorem ab_ri_bool (v : Option Value) (h : ab_ok (some .boolean) v = true) : ab_ri v = .ireturn := by
  cases v with
  | none => cases h
  | some v => cases v <;> first | rfl | cases h
theorem ab_ri_char (v : Option Value) (h : ab_ok (some .char) v = true) : ab_ri v = .ireturn := by
  cases v with
  | none => cases h
  | some v => cases v <;> first | rfl | cases h
theorem ab_ri_byte (v : Option Value) (h : ab_ok (some .byte) v = true) : ab_ri v = .ireturn := by
  cases v with
  | none => cases h
  | some v => cases v <;> first | rfl | cases h
theorem ab_ri_long (v : Option Value) (h : ab_ok (some .long) v = true) : ab_ri v = .lreturn := by
  cases v with
  | none => cases h
  | some v => cases v <;> first | rfl | cases h
theorem ab_ri_void (v : Option Value) (h : ab_ok none v = true) : ab_ri v = .return_ := by
  cases v with
  | none => rfl
  | some v => cases v <;> cases h
theorem ab_ri_obj {C : String} (v : Option Value) (h : ab_ok (some (.object C)) v = true) : ab_ri v = .areturn := by
  cases v with
  | none => cases h
  | some v => cases v <;> first | rfl | cases h
theorem ab_ri_arr {t : FieldType} (v : Option Value) (h : ab_ok (some (.array t)) v = true) : ab_ri v = .areturn := by
  cases v with
  | none => cases h
  | some v => cases v <;> first | rfl | cases h
end ABO2
end
section
/-! ===== the heap's instructions ===== -/
def ab_gf (w : ab_W) (a ci fi : Nat) : Option Value := match w[a]? with
  | some (.inl (c, fs)) => if c = ci then fs[fi]? else none
  | _ => none
def ab_pf (w : ab_W) (a ci fi : Nat) (v : Value) : Option ab_W := match w[a]? with
  | some (.inl (c, fs)) => if c = ci ∧ fi < fs.length then some (w.set a (.inl (c, fs.set fi v))) else none
  | _ => none
def ab_ia (w : ab_W) (a t : Nat) : Option (List Int32) := match w[a]? with
  | some (.inr (.inl (t', xs))) => if t' = t then some xs else none
  | _ => none
def ab_ra (w : ab_W) (a t : Nat) : Option (List (Option Nat)) := match w[a]? with
  | some (.inr (.inr (t', xs))) => if t' = t then some xs else none
  | _ => none
def ab_rv (o : Option Nat) : Value := match o with
  | some a => .ref a
  | none => .null
theorem ab_gf_some {w : ab_W} {a ci fi : Nat} {v : Value} (h : ab_gf w a ci fi = some v) : ∃ fs, w[a]? = some (.inl (ci, fs)) ∧ fs[fi]? = some v := by
  unfold ab_gf at h
  split at h
  · rename_i c fs hw
    split at h
    · rename_i hc; subst hc; exact ⟨fs, hw, h⟩
    · cases h
  · cases h
theorem ab_pf_some {w w' : ab_W} {a ci fi : Nat} {v : Value} (h : ab_pf w a ci fi v = some w') : ∃ fs, w[a]? = some (.inl (ci, fs)) ∧ fi < fs.length ∧ w' = w.set a (.inl (ci, fs.set fi v)) := by
  unfold ab_pf at h
  split at h
  · rename_i c fs hw
    split at h
    · rename_i hc
      obtain ⟨hc, hf⟩ := hc
      subst hc
      exact ⟨fs, hw, hf, (Option.some.inj h).symm⟩
    · cases h
  · cases h
theorem ab_ia_some {w : ab_W} {a t : Nat} {xs : List Int32} (h : ab_ia w a t = some xs) : w[a]? = some (.inr (.inl (t, xs))) := by
  unfold ab_ia at h
  split at h
  · rename_i t' ys hw
    split at h
    · rename_i hc; subst hc; rw [hw, Option.some.inj h]
    · cases h
  · cases h
theorem ab_ra_some {w : ab_W} {a t : Nat} {xs : List (Option Nat)} (h : ab_ra w a t = some xs) : w[a]? = some (.inr (.inr (t, xs))) := by
  unfold ab_ra at h
  split at h
  · rename_i t' ys hw
    split at h
    · rename_i hc; subst hc; rw [hw, Option.some.inj h]
    · cases h
  · cases h
def o_getf (ci fi : Nat) (k : ab_K) : ab_K := fun lv st w => match st with
  | .ref a :: st' => match ab_gf w a ci fi with
    | some v => k lv (v :: st') w
    | none => none
  | _ => none
def o_putI (ci fi : Nat) (k : ab_K) : ab_K := fun lv st w => match st with
  | .int x :: .ref a :: st' => match ab_pf w a ci fi (.int x) with
    | some w' => k lv st' w'
    | none => none
  | _ => none
def o_putZ (ci fi : Nat) (k : ab_K) : ab_K := fun lv st w => match st with
  | .int x :: .ref a :: st' => if x = 0 ∨ x = 1 then (match ab_pf w a ci fi (.int x) with
    | some w' => k lv st' w'
    | none => none) else none
  | _ => none
def o_putA (ci fi : Nat) (k : ab_K) : ab_K := fun lv st w => match st with
  | .ref b :: .ref a :: st' => match ab_pf w a ci fi (.ref b) with
    | some w' => k lv st' w'
    | none => none
  | .null :: .ref a :: st' => match ab_pf w a ci fi .null with
    | some w' => k lv st' w'
    | none => none
  | _ => none
def o_iald (t : Nat) (k : ab_K) : ab_K := fun lv st w => match st with
  | .int i :: .ref a :: st' => match ab_ia w a t with
    | some xs => if i < 0 then none else (match xs[i.toNatClampNeg]? with
      | some x => k lv (.int x :: st') w
      | none => none)
    | none => none
  | _ => none
def o_iast (t : Nat) (f : Int32 → Int32) (k : ab_K) : ab_K := fun lv st w => match st with
  | .int x :: .int i :: .ref a :: st' => match ab_ia w a t with
    | some xs => if i < 0 then none else (if i.toNatClampNeg < xs.length then k lv st' (w.set a (.inr (.inl (t, xs.set i.toNatClampNeg (f x))))) else none)
    | none => none
  | _ => none
def o_aald (t : Nat) (k : ab_K) : ab_K := fun lv st w => match st with
  | .int i :: .ref a :: st' => match ab_ra w a t with
    | some xs => if i < 0 then none else (match xs[i.toNatClampNeg]? with
      | some x => k lv (ab_rv x :: st') w
      | none => none)
    | none => none
  | _ => none
def o_aast (t ci : Nat) (k : ab_K) : ab_K := fun lv st w => match st with
  | .ref v :: .int i :: .ref a :: st' => match ab_ra w a t with
    | some xs => if i < 0 then none else (match w[v]? with
      | some (.inl (c, _)) => if c = ci ∧ i.toNatClampNeg < xs.length then k lv st' (w.set a (.inr (.inr (t, xs.set i.toNatClampNeg (some v))))) else none
      | _ => none)
    | none => none
  | .null :: .int i :: .ref a :: st' => match ab_ra w a t with
    | some xs => if i < 0 then none else (if i.toNatClampNeg < xs.length then k lv st' (w.set a (.inr (.inr (t, xs.set i.toNatClampNeg none)))) else none)
    | none => none
  | _ => none
def o_alenI (t : Nat) (k : ab_K) : ab_K := fun lv st w => match st with
  | .ref a :: st' => match ab_ia w a t with
    | some xs => k lv (.int (Int32.ofNat xs.length) :: st') w
    | none => none
  | _ => none
def o_new (ci : Nat) (fs : List Value) (k : ab_K) : ab_K := fun lv st w => if w.length < 1000000 then k lv (.ref w.length :: st) (w ++ [.inl (ci, fs)]) else none
def o_newi (t : Nat) (k : ab_K) : ab_K := fun lv st w => match st with
  | .int n :: st' => if n < 0 then none else (if w.length < 1000000 ∧ n.toNatClampNeg ≤ 100000 then k lv (.ref w.length :: st') (w ++ [.inr (.inl (t, List.replicate n.toNatClampNeg 0))]) else none)
  | _ => none
def o_newa (t : Nat) (k : ab_K) : ab_K := fun lv st w => match st with
  | .int n :: st' => if n < 0 then none else (if w.length < 1000000 ∧ n.toNatClampNeg ≤ 100000 then k lv (.ref w.length :: st') (w ++ [.inr (.inr (t, List.replicate n.toNatClampNeg none))]) else none)
  | _ => none
def ab_cl (st : List Value) : Bool := decide ((st.map fun v => v.category).sum ≤ 8)
def o_oinit (k : ab_K) : ab_K := fun lv st w => match st with
  | .ref _ :: st' => if ab_cl st' = true then k lv st' w else none
  | _ => none
def o_m2 (f : Int32 → Int32 → Int32) (k : ab_K) : ab_K := fun lv st w => match st with
  | .int y :: .int x :: st' => if ab_cl st' = true then k lv (.int (f x y) :: st') w else none
  | _ => none
def o_m1 (f : Int32 → Int32) (k : ab_K) : ab_K := fun lv st w => match st with
  | .int x :: st' => if ab_cl st' = true then k lv (.int (f x) :: st') w else none
  | _ => none
def ab_cp (xs ys : List Int32) (sp dp n : Nat) : List Int32 := ys.take dp ++ ((xs.drop sp).take n ++ ys.drop (dp + n))
def o_acopy (k : ab_K) : ab_K := fun lv st w => match st with
  | .int n :: .int dp :: .ref b :: .int sp :: .ref a :: st' => match ab_ia w a 0, ab_ia w b 0 with
    | some xs, some ys => if sp < 0 ∨ dp < 0 ∨ n < 0 then none else (if sp.toNatClampNeg + n.toNatClampNeg ≤ xs.length ∧ dp.toNatClampNeg + n.toNatClampNeg ≤ ys.length ∧ ab_cl st' = true then k lv st' (w.set b (.inr (.inl (0, ab_cp xs ys sp.toNatClampNeg dp.toNatClampNeg n.toNatClampNeg)))) else none)
    | _, _ => none
  | _ => none
theorem ab_lt {w : ab_W} {a : Nat} {c : ab_C} (h : w[a]? = some c) : a < w.length := (List.getElem?_eq_some_iff.mp h).1
theorem ab_ad_in {G : ab_G} {w : ab_W} {H : Heap} {a : Nat} {c : ab_C} (ha : ab_at G w H) (h : w[a]? = some c) : ab_ad G a = G.2.1 + a := if_pos (Nat.lt_of_lt_of_le (ab_lt h) ha.2.2)
section ABW
variable {G : ab_G} {p : Program} {l : Launch} {e : Env} {R : Room} {s : State} {m : MethodId} {args : Array Value} {below : List Frame} {meth : Method} {c : Code} {H : Heap} {locs : List Loc} {cells slots : Nat} {Q : State → Prop} {g : JFrame}
theorem ab_sizeW (k : H.size ≤ s.heap.size + cells → W p l e R s m args below meth c H locs cells slots Q g) : W p l e R s m args below meth c H locs cells slots Q g := fun T hT X => k (by rw [← hT]; exact X.heapSize) T hT X
theorem ab_P_lt {w : ab_W} {ws : va_W} (hP : va_P G.1.1 vwCl (ab_ws G w ++ ws) H) {a : Nat} (h : a < w.length) : G.2.1 + a < H.size := by
  have h1 : w[a]? = some w[a] := List.getElem?_eq_getElem h
  have h2 : (ab_ws G w ++ ws)[a]? = some (G.2.1 + a, ab_e G w[a]) := by
    rw [List.getElem?_append_left (by unfold ab_ws; simpa using h)]
    exact ab_ws_at h1
  exact (hP a _ h2).lt
theorem ab_atW {w : ab_W} {n0 : Nat} (hs : s.heap.size = G.2.1 + n0) (hn : n0 ≤ w.length) (hl : w.length ≤ 1000000) (hP : va_P G.1.1 vwCl (ab_ws G w) H) (hS : va_S (ab_A G) s.heap H locs) (k : ab_at G w H → W p l e R s m args below meth c H locs (w.length - n0) slots Q g) : W p l e R s m args below meth c H locs (w.length - n0) slots Q g := by
  refine ab_sizeW fun hz => k ⟨hP, ?_, hl⟩
  have h1 := hS.1
  rcases Nat.eq_zero_or_pos w.length with h0 | h0
  · omega
  · have h2 := ab_P_lt (ws := []) (by rw [List.append_nil]; exact hP) (show w.length - 1 < w.length by omega)
    omega
theorem ab_newq {w : ab_W} {q n0 : Nat} {x : va_E} (hs : s.heap.size = G.2.1 + n0) (hn : n0 ≤ w.length) (hP : va_P G.1.1 vwCl (ab_ws G w ++ [(q, x)]) H) (hD : va_D (ab_A G) (ab_ws G w ++ [(q, x)])) (hz : H.size ≤ s.heap.size + (w.length - n0 + 1)) : q = G.2.1 + w.length := by
  have hlen : (ab_ws G w).length = w.length := by unfold ab_ws; simp
  have hq : (ab_ws G w ++ [(q, x)])[w.length]? = some (q, x) := by
    rw [List.getElem?_append_right (by rw [hlen]; exact Nat.le_refl _), hlen, Nat.sub_self]; rfl
  have h1 : q < H.size := (hP _ _ hq).lt
  have h2 : G.2.1 ≤ q := hD.2 _ _ hq
  rcases Nat.lt_or_ge q (G.2.1 + w.length) with h3 | h3
  · exfalso
    have h4 : q - G.2.1 < w.length := by omega
    have h5 : (ab_ws G w ++ [(q, x)])[q - G.2.1]? = some (G.2.1 + (q - G.2.1), ab_e G w[q - G.2.1]) := by
      rw [List.getElem?_append_left (by rw [hlen]; exact h4)]
      exact ab_ws_at (List.getElem?_eq_getElem h4)
    have h6 := hD.1 _ _ _ _ h5 hq (show G.2.1 + (q - G.2.1) = q by omega)
    omega
  · omega
end ABW
end
section
section ABH
variable {G : ab_G} {Z : State → Prop} {d : Nat} {Y : ab_Y} {pc : Nat} {k : ab_K}
theorem sn_getf {ci fi N index : Nat} {C : String} {T : u_T} (hd : decode Y.1 pc = .ok (.getfield index, 3)) (hc : vwCl[ci]? = some (C, T, N)) (hin : ∀ w ∈ u_ws C T N, w ∈ ab_GW) (hk : fi < N) (hw : Cond.fieldLink Y.2.1 index (T fi).1 (T fi).2.1 (T fi).2.2.1 ∈ ab_GW) (h : ab_Sd G Z d Y (pc + 3) k) : ab_Sd G Z d Y pc (o_getf ci fi k) := by
  refine h.step fun lv st w r hr => ?_
  unfold o_getf at hr
  split at hr
  · rename_i a st'
    split at hr
    · rename_i v hv
      obtain ⟨fs, h1, h2⟩ := ab_gf_some hv
      refine ⟨lv, v :: st', w, hr, ab_le.rf, fun p l e R s m args below meth c Q n0 t0 N T hX hR hn ht hN hT kk ls H locs hl ha hS => ?_⟩
      show W p l e R s m args below meth c H locs _ _ Q (F0 m pc ls (.ref (ab_ad G a) :: st'.map (ab_cv G)))
      rw [ab_ad_in ha h1]
      exact va_get hX.1 hX.2.1 hX.2.2.2.2.1 hin hX.2.2.2.1 hX.2.2.2.2.2.1 ha.1 a (ab_ws_at h1) hc fi hk (hX.2.2.2.2.1 _ hw) (fun _ q => q) (v := ab_cv G v) (by rw [List.getElem?_map, h2]; rfl) hd (kk ls H locs hl ha hS)
    · cases hr
  · cases hr
/-- a field's new value, of a kind that the field takes -/
theorem ab_putJ {ci fi N index : Nat} {C : String} {T : u_T} {ty : FieldType} {v : Value} {a : Nat} {lv : ab_L} {st' : List Value} {w : ab_W} {fs : List Value} (ty0 : Nat → FieldType) (hty : ∀ k, k < N → parseFieldDescriptor (T k).2.2.1 = some (ty0 k)) (hnm : ∀ a, a < N → ∀ b, b < N → a ≠ b → (T a).2.1 ≠ (T b).2.1)
    (hd : decode Y.1 pc = .ok (.putfield index, 3)) (hc : vwCl[ci]? = some (C, T, N)) (hin : ∀ w ∈ u_ws C T N, w ∈ ab_GW) (hk : fi < N) (hw : Cond.fieldLink Y.2.1 index (T fi).1 (T fi).2.1 (T fi).2.2.1 ∈ ab_GW)
    (hfin : (T fi).2.2.2 = false ∨ ((T fi).2.2.2 = true ∧ Y.2.2.2.2.1 = "<init>" ∧ (T fi).1 = Y.2.1)) (hpd : parseFieldDescriptor (T fi).2.2.1 = some ty) (hna : narrow ty (ab_cv G v) = ab_cv G v) (hfit : fits ty (ab_cv G v) = true) (h1 : w[a]? = some (.inl (ci, fs))) (h2 : fi < fs.length) :
    ∀ (p : Program) (l : Launch) (e : Env) (R : Room) (s : State) (m : MethodId) (args : Array Value) (below : List Frame) (meth : Method) (c : Code) (Q : State → Prop) (n0 t0 N T : Nat),
        ab_X G Z p s m args meth c Y n0 → ab_Rm d n0 t0 N T R → n0 ≤ w.length → t0 ≤ ab_tot w → (w.set a (.inl (ci, fs.set fi v))).length ≤ N → ab_tot (w.set a (.inl (ci, fs.set fi v))) ≤ T → ab_J G p l e R s m args below meth c Q Y n0 t0 (pc + 3) lv st' (w.set a (.inl (ci, fs.set fi v))) → ab_J G p l e R s m args below meth c Q Y n0 t0 pc lv (v :: .ref a :: st') w := by
  intro p l e R s m args below meth c Q n0 t0 N T hX hR hn ht hN hT kk ls H locs hl ha hS
  show W p l e R s m args below meth c H locs _ _ Q (F0 m pc ls (ab_cv G v :: .ref (ab_ad G a) :: st'.map (ab_cv G)))
  rw [ab_ad_in ha h1]
  have key : ∀ (H1 : Heap) (locs1 : List Loc), va_P G.1.1 vwCl ((ab_ws G w).set a (G.2.1 + a, .inr (ci, (fs.map (ab_cv G)).set fi (ab_cv G v)))) H1 → va_D (ab_A G) ((ab_ws G w).set a (G.2.1 + a, .inr (ci, (fs.map (ab_cv G)).set fi (ab_cv G v)))) → va_S (ab_A G) s.heap H1 locs1 → W p l e R s m args below meth c H1 locs1 (w.length - n0) (ab_tot w - t0) Q (F0 m (pc + 3) ls (st'.map (ab_cv G))) := by
    intro H1 locs1 hP1 hD1 hS1
    have e1 : (ab_ws G w).set a (G.2.1 + a, .inr (ci, (fs.map (ab_cv G)).set fi (ab_cv G v))) = ab_ws G (w.set a (.inl (ci, fs.set fi v))) := by
      rw [ab_ws_set]
      show _ = (ab_ws G w).set a (G.2.1 + a, .inr (ci, (fs.set fi v).map (ab_cv G)))
      rw [List.map_set]
    rw [e1] at hP1
    have e2 : (w.set a (.inl (ci, fs.set fi v))).length = w.length := List.length_set
    have e3 : ab_tot (w.set a (.inl (ci, fs.set fi v))) = ab_tot w := ab_tot_set h1 (by show (fs.set fi v).length = fs.length; exact List.length_set)
    have k2 := kk ls H1 locs1 hl
    rw [e2, e3] at k2
    have k3 := ab_atW (p := p) (l := l) (e := e) (R := R) (m := m) (args := args) (below := below) (meth := meth) (c := c) (Q := Q) (slots := ab_tot w - t0) (g := F0 m (pc + 3) ls (st'.map (ab_cv G))) hX.2.2.2.2.2.2.2.1 (by rw [e2]; exact hn) (by rw [e2]; exact ha.2.2) hP1 hS1
    rw [e2] at k3
    exact k3 (fun hat => k2 hat hS1)
  rcases hfin with hf | ⟨hf, hi, ho⟩
  · exact va_put hX.1 hX.2.1 hX.2.2.2.2.1 hin ty0 hty hnm hX.2.2.2.1 hX.2.2.2.2.2.1 ha.1 (ab_D G w) hS a (ab_ws_at h1) hc fi hk (hX.2.2.2.2.1 _ hw) (fun _ q => q) hf hpd hna hfit (by rw [List.length_map]; exact h2) hd key
  · exact va_putF hX.1 hX.2.1 hX.2.2.2.2.1 hin ty0 hty hnm hX.2.2.2.1 hX.2.2.2.2.2.1 ha.1 (ab_D G w) hS a (ab_ws_at h1) hc fi hk (hX.2.2.2.2.1 _ hw) (fun _ q => q) hf (hX.2.2.2.2.2.2.2.2.2.2.1.trans hi) ho hpd hna hfit (by rw [List.length_map]; exact h2) hd key
theorem sn_putI {ci fi N index : Nat} {C : String} {T : u_T} (ty0 : Nat → FieldType) (hty : ∀ k, k < N → parseFieldDescriptor (T k).2.2.1 = some (ty0 k)) (hnm : ∀ a, a < N → ∀ b, b < N → a ≠ b → (T a).2.1 ≠ (T b).2.1)
    (hd : decode Y.1 pc = .ok (.putfield index, 3)) (hc : vwCl[ci]? = some (C, T, N)) (hin : ∀ w ∈ u_ws C T N, w ∈ ab_GW) (hk : fi < N) (hw : Cond.fieldLink Y.2.1 index (T fi).1 (T fi).2.1 (T fi).2.2.1 ∈ ab_GW)
    (hfin : (T fi).2.2.2 = false ∨ ((T fi).2.2.2 = true ∧ Y.2.2.2.2.1 = "<init>" ∧ (T fi).1 = Y.2.1)) (hpd : parseFieldDescriptor (T fi).2.2.1 = some .int) (h : ab_Sd G Z d Y (pc + 3) k) : ab_Sd G Z d Y pc (o_putI ci fi k) := by
  refine h.step fun lv st w r hr => ?_
  unfold o_putI at hr
  split at hr
  · rename_i x a st'
    split at hr
    · rename_i w' hv
      obtain ⟨fs, h1, h2, rfl⟩ := ab_pf_some hv
      exact ⟨lv, st', _, hr, ab_le.set h1 (by show (fs.set fi _).length = fs.length; exact List.length_set), ab_putJ ty0 hty hnm hd hc hin hk hw hfin hpd rfl rfl h1 h2⟩
    · cases hr
  · cases hr
theorem sn_putZ {ci fi N index : Nat} {C : String} {T : u_T} (ty0 : Nat → FieldType) (hty : ∀ k, k < N → parseFieldDescriptor (T k).2.2.1 = some (ty0 k)) (hnm : ∀ a, a < N → ∀ b, b < N → a ≠ b → (T a).2.1 ≠ (T b).2.1)
    (hd : decode Y.1 pc = .ok (.putfield index, 3)) (hc : vwCl[ci]? = some (C, T, N)) (hin : ∀ w ∈ u_ws C T N, w ∈ ab_GW) (hk : fi < N) (hw : Cond.fieldLink Y.2.1 index (T fi).1 (T fi).2.1 (T fi).2.2.1 ∈ ab_GW)
    (hfin : (T fi).2.2.2 = false ∨ ((T fi).2.2.2 = true ∧ Y.2.2.2.2.1 = "<init>" ∧ (T fi).1 = Y.2.1)) (hpd : parseFieldDescriptor (T fi).2.2.1 = some .boolean) (h : ab_Sd G Z d Y (pc + 3) k) : ab_Sd G Z d Y pc (o_putZ ci fi k) := by
  refine h.step fun lv st w r hr => ?_
  unfold o_putZ at hr
  split at hr
  · rename_i x a st'
    split at hr
    · rename_i hx
      split at hr
      · rename_i w' hv
        obtain ⟨fs, h1, h2, rfl⟩ := ab_pf_some hv
        refine ⟨lv, st', _, hr, ab_le.set h1 (by show (fs.set fi _).length = fs.length; exact List.length_set), ab_putJ ty0 hty hnm hd hc hin hk hw hfin hpd ?_ ?_ h1 h2⟩
        · rcases hx with rfl | rfl <;> rfl
        · rcases hx with rfl | rfl <;> rfl
      · cases hr
    · cases hr
  · cases hr
theorem sn_putA {ci fi N index : Nat} {C : String} {T : u_T} {ty : FieldType} (ty0 : Nat → FieldType) (hty : ∀ k, k < N → parseFieldDescriptor (T k).2.2.1 = some (ty0 k)) (hnm : ∀ a, a < N → ∀ b, b < N → a ≠ b → (T a).2.1 ≠ (T b).2.1)
    (hd : decode Y.1 pc = .ok (.putfield index, 3)) (hc : vwCl[ci]? = some (C, T, N)) (hin : ∀ w ∈ u_ws C T N, w ∈ ab_GW) (hk : fi < N) (hw : Cond.fieldLink Y.2.1 index (T fi).1 (T fi).2.1 (T fi).2.2.1 ∈ ab_GW)
    (hfin : (T fi).2.2.2 = false ∨ ((T fi).2.2.2 = true ∧ Y.2.2.2.2.1 = "<init>" ∧ (T fi).1 = Y.2.1)) (hpd : parseFieldDescriptor (T fi).2.2.1 = some ty) (hr1 : ∀ a, narrow ty (.ref a) = .ref a ∧ fits ty (.ref a) = true) (hr2 : narrow ty .null = .null ∧ fits ty .null = true) (h : ab_Sd G Z d Y (pc + 3) k) : ab_Sd G Z d Y pc (o_putA ci fi k) := by
  refine h.step fun lv st w r hr => ?_
  unfold o_putA at hr
  split at hr
  · rename_i b a st'
    split at hr
    · rename_i w' hv
      obtain ⟨fs, h1, h2, rfl⟩ := ab_pf_some hv
      exact ⟨lv, st', _, hr, ab_le.set h1 (by show (fs.set fi _).length = fs.length; exact List.length_set), ab_putJ ty0 hty hnm hd hc hin hk hw hfin hpd (hr1 _).1 (hr1 _).2 h1 h2⟩
    · cases hr
  · rename_i a st'
    split at hr
    · rename_i w' hv
      obtain ⟨fs, h1, h2, rfl⟩ := ab_pf_some hv
      exact ⟨lv, st', _, hr, ab_le.set h1 (by show (fs.set fi _).length = fs.length; exact List.length_set), ab_putJ ty0 hty hnm hd hc hin hk hw hfin hpd hr2.1 hr2.2 h1 h2⟩
    · cases hr
  · cases hr
theorem ab_in {i : Int32} {n : Nat} (h1 : ¬ i < 0) (h2 : i.toNatClampNeg < n) : vp_in i n := fun q => q.elim h1 (fun z => by omega)
theorem ab_getD {xs : List Int32} {i : Nat} {x : Int32} (h : xs[i]? = some x) : xs.getD i 0 = x := by rw [List.getD_eq_getElem?_getD, h]; rfl
theorem sn_iald {t : Nat} (hd : decode Y.1 pc = .ok (.iaload, 1)) (ht : t = 0) (h : ab_Sd G Z d Y (pc + 1) k) : ab_Sd G Z d Y pc (o_iald t k) := by
  subst ht
  refine h.step fun lv st w r hr => ?_
  unfold o_iald at hr
  split at hr
  · rename_i i a st'
    split at hr
    · rename_i xs hx
      split at hr
      · cases hr
      · rename_i hi
        split at hr
        · rename_i x hv
          have h1 := ab_ia_some hx
          refine ⟨lv, .int x :: st', w, hr, ab_le.rf, fun p l e R s m args below meth c Q n0 t0 N T hX hR hn ht hN hT kk ls H locs hl ha hS => ?_⟩
          show W p l e R s m args below meth c H locs _ _ Q (F0 m pc ls (.int i :: .ref (ab_ad G a) :: st'.map (ab_cv G)))
          rw [ab_ad_in ha h1]
          refine va_iald (f := fun j => xs.getD j 0) hX.1 hX.2.1 hX.2.2.2.2.2.1 ha.1 a 0 (ab_ws_at h1) rfl (ab_in hi (List.getElem?_eq_some_iff.mp hv).1) hd ?_
          rw [ab_getD hv]
          exact kk ls H locs hl ha hS
        · cases hr
    · cases hr
  · cases hr
theorem sn_cald {t : Nat} (hd : decode Y.1 pc = .ok (.caload, 1)) (ht : t = 1) (h : ab_Sd G Z d Y (pc + 1) k) : ab_Sd G Z d Y pc (o_iald t k) := by
  subst ht
  refine h.step fun lv st w r hr => ?_
  unfold o_iald at hr
  split at hr
  · rename_i i a st'
    split at hr
    · rename_i xs hx
      split at hr
      · cases hr
      · rename_i hi
        split at hr
        · rename_i x hv
          have h1 := ab_ia_some hx
          refine ⟨lv, .int x :: st', w, hr, ab_le.rf, fun p l e R s m args below meth c Q n0 t0 N T hX hR hn ht hN hT kk ls H locs hl ha hS => ?_⟩
          show W p l e R s m args below meth c H locs _ _ Q (F0 m pc ls (.int i :: .ref (ab_ad G a) :: st'.map (ab_cv G)))
          rw [ab_ad_in ha h1]
          refine va_cald (f := fun j => xs.getD j 0) hX.1 hX.2.1 hX.2.2.2.2.2.1 ha.1 a 1 (ab_ws_at h1) rfl (ab_in hi (List.getElem?_eq_some_iff.mp hv).1) hd ?_
          rw [ab_getD hv]
          exact kk ls H locs hl ha hS
        · cases hr
    · cases hr
  · cases hr
theorem sn_zald {t : Nat} (hd : decode Y.1 pc = .ok (.baload, 1)) (ht : t = 2) (h : ab_Sd G Z d Y (pc + 1) k) : ab_Sd G Z d Y pc (o_iald t k) := by
  subst ht
  refine h.step fun lv st w r hr => ?_
  unfold o_iald at hr
  split at hr
  · rename_i i a st'
    split at hr
    · rename_i xs hx
      split at hr
      · cases hr
      · rename_i hi
        split at hr
        · rename_i x hv
          have h1 := ab_ia_some hx
          refine ⟨lv, .int x :: st', w, hr, ab_le.rf, fun p l e R s m args below meth c Q n0 t0 N T hX hR hn ht hN hT kk ls H locs hl ha hS => ?_⟩
          show W p l e R s m args below meth c H locs _ _ Q (F0 m pc ls (.int i :: .ref (ab_ad G a) :: st'.map (ab_cv G)))
          rw [ab_ad_in ha h1]
          refine va_zald (f := fun j => xs.getD j 0) hX.1 hX.2.1 hX.2.2.2.2.2.1 ha.1 a 2 (ab_ws_at h1) rfl (ab_in hi (List.getElem?_eq_some_iff.mp hv).1) hd ?_
          rw [ab_getD hv]
          exact kk ls H locs hl ha hS
        · cases hr
    · cases hr
  · cases hr
end ABH
end
section
section ABH3
variable {G : ab_G} {Z : State → Prop} {d : Nat} {Y : ab_Y} {pc : Nat} {k : ab_K}
theorem ab_upd_set {xs : List Int32} {i : Nat} {y : Int32} (h : i < xs.length) : upd (fun j => xs.getD j 0) i y = fun j => (xs.set i y).getD j 0 := by
  funext j
  unfold upd
  dsimp only
  rw [List.getD_eq_getElem?_getD, List.getD_eq_getElem?_getD, List.getElem?_set]
  by_cases hj : j = i
  · subst hj
    simp [h]
  · rw [if_neg hj, if_neg (fun q => hj q.symm)]
/-- behind a store into a cell of as many slots -/
theorem ab_setJ {p : Program} {l : Launch} {e : Env} {R : Room} {s : State} {m : MethodId} {args : Array Value} {below : List Frame} {meth : Method} {c : Code} {Q : State → Prop} {n0 t0 pc' a : Nat} {lv : ab_L} {st' : List Value} {w : ab_W} {x y : ab_C} {H H1 : Heap} {ls : Array Slot} {locs1 : List Loc}
    (hX : ab_X G Z p s m args meth c Y n0) (hn : n0 ≤ w.length) (ha : ab_at G w H) (h1 : w[a]? = some x) (hsz : ab_sz y = ab_sz x) (hl : lv_has ls Y.2.2.1 (ab_lp G lv)) (kk : ab_J G p l e R s m args below meth c Q Y n0 t0 pc' lv st' (w.set a y))
    (hP1 : va_P G.1.1 vwCl ((ab_ws G w).set a (G.2.1 + a, ab_e G y)) H1) (hS1 : va_S (ab_A G) s.heap H1 locs1) : W p l e R s m args below meth c H1 locs1 (w.length - n0) (ab_tot w - t0) Q (F0 m pc' ls (st'.map (ab_cv G))) := by
  rw [← ab_ws_set] at hP1
  have e2 : (w.set a y).length = w.length := List.length_set
  have e3 : ab_tot (w.set a y) = ab_tot w := ab_tot_set h1 hsz
  have k2 := kk ls H1 locs1 hl
  rw [e2, e3] at k2
  have k3 := ab_atW (p := p) (l := l) (e := e) (R := R) (m := m) (args := args) (below := below) (meth := meth) (c := c) (Q := Q) (slots := ab_tot w - t0) (g := F0 m pc' ls (st'.map (ab_cv G))) hX.2.2.2.2.2.2.2.1 (by rw [e2]; exact hn) (by rw [e2]; exact ha.2.2) hP1 hS1
  rw [e2] at k3
  exact k3 (fun hat => k2 hat hS1)
theorem sn_iast {t : Nat} {f : Int32 → Int32} (hd : decode Y.1 pc = .ok (.iastore, 1)) (ht : t = 0) (hf : f = fun x => x) (h : ab_Sd G Z d Y (pc + 1) k) : ab_Sd G Z d Y pc (o_iast t f k) := by
  subst ht; subst hf
  refine h.step fun lv st w r hr => ?_
  unfold o_iast at hr
  split at hr
  · rename_i x i a st'
    split at hr
    · rename_i xs hx
      split at hr
      · cases hr
      · rename_i hi
        split at hr
        · rename_i hlt
          have h1 := ab_ia_some hx
          have hsz : ab_sz (.inr (.inl (0, xs.set i.toNatClampNeg x))) = ab_sz (.inr (.inl (0, xs))) := List.length_set
          refine ⟨lv, st', _, hr, ab_le.set h1 hsz, fun p l e R s m args below meth c Q n0 t0 N T hX hR hn ht hN hT kk ls H locs hl ha hS => ?_⟩
          show W p l e R s m args below meth c H locs _ _ Q (F0 m pc ls (.int x :: .int i :: .ref (ab_ad G a) :: st'.map (ab_cv G)))
          rw [ab_ad_in ha h1]
          refine va_iast (f := fun j => xs.getD j 0) hX.1 hX.2.1 hX.2.2.2.2.2.1 ha.1 (ab_D G w) hS a 0 (ab_ws_at h1) rfl (ab_in hi hlt) hd (fun H1 locs1 hP1 hD1 hS1 => ?_)
          rw [ab_upd_set hlt] at hP1
          exact ab_setJ hX hn ha h1 hsz hl kk (by show va_P G.1.1 vwCl ((ab_ws G w).set a (G.2.1 + a, .inl (G.1.2 0, (xs.set i.toNatClampNeg x).length, .inl (fun j => (xs.set i.toNatClampNeg x).getD j 0)))) H1; rw [List.length_set]; exact hP1) hS1
        · cases hr
    · cases hr
  · cases hr
theorem sn_cast {t : Nat} {f : Int32 → Int32} (hd : decode Y.1 pc = .ok (.castore, 1)) (ht : t = 1) (hf : f = vp_nar .char) (h : ab_Sd G Z d Y (pc + 1) k) : ab_Sd G Z d Y pc (o_iast t f k) := by
  subst ht; subst hf
  refine h.step fun lv st w r hr => ?_
  unfold o_iast at hr
  split at hr
  · rename_i x i a st'
    split at hr
    · rename_i xs hx
      split at hr
      · cases hr
      · rename_i hi
        split at hr
        · rename_i hlt
          have h1 := ab_ia_some hx
          have hsz : ab_sz (.inr (.inl (1, xs.set i.toNatClampNeg (vp_nar .char x)))) = ab_sz (.inr (.inl (1, xs))) := List.length_set
          refine ⟨lv, st', _, hr, ab_le.set h1 hsz, fun p l e R s m args below meth c Q n0 t0 N T hX hR hn ht hN hT kk ls H locs hl ha hS => ?_⟩
          show W p l e R s m args below meth c H locs _ _ Q (F0 m pc ls (.int x :: .int i :: .ref (ab_ad G a) :: st'.map (ab_cv G)))
          rw [ab_ad_in ha h1]
          refine va_cast (f := fun j => xs.getD j 0) hX.1 hX.2.1 hX.2.2.2.2.2.1 ha.1 (ab_D G w) hS a 1 (ab_ws_at h1) rfl (ab_in hi hlt) hd (fun H1 locs1 hP1 hD1 hS1 => ?_)
          rw [ab_upd_set hlt] at hP1
          exact ab_setJ hX hn ha h1 hsz hl kk (by show va_P G.1.1 vwCl ((ab_ws G w).set a (G.2.1 + a, .inl (G.1.2 1, (xs.set i.toNatClampNeg (vp_nar .char x)).length, .inl (fun j => (xs.set i.toNatClampNeg (vp_nar .char x)).getD j 0)))) H1; rw [List.length_set]; exact hP1) hS1
        · cases hr
    · cases hr
  · cases hr
theorem sn_zast {t : Nat} {f : Int32 → Int32} (hd : decode Y.1 pc = .ok (.bastore, 1)) (ht : t = 2) (hf : f = vp_nar .boolean) (h : ab_Sd G Z d Y (pc + 1) k) : ab_Sd G Z d Y pc (o_iast t f k) := by
  subst ht; subst hf
  refine h.step fun lv st w r hr => ?_
  unfold o_iast at hr
  split at hr
  · rename_i x i a st'
    split at hr
    · rename_i xs hx
      split at hr
      · cases hr
      · rename_i hi
        split at hr
        · rename_i hlt
          have h1 := ab_ia_some hx
          have hsz : ab_sz (.inr (.inl (2, xs.set i.toNatClampNeg (vp_nar .boolean x)))) = ab_sz (.inr (.inl (2, xs))) := List.length_set
          refine ⟨lv, st', _, hr, ab_le.set h1 hsz, fun p l e R s m args below meth c Q n0 t0 N T hX hR hn ht hN hT kk ls H locs hl ha hS => ?_⟩
          show W p l e R s m args below meth c H locs _ _ Q (F0 m pc ls (.int x :: .int i :: .ref (ab_ad G a) :: st'.map (ab_cv G)))
          rw [ab_ad_in ha h1]
          refine va_zast (f := fun j => xs.getD j 0) hX.1 hX.2.1 hX.2.2.2.2.2.1 ha.1 (ab_D G w) hS a 2 (ab_ws_at h1) rfl (ab_in hi hlt) hd (fun H1 locs1 hP1 hD1 hS1 => ?_)
          rw [ab_upd_set hlt] at hP1
          exact ab_setJ hX hn ha h1 hsz hl kk (by show va_P G.1.1 vwCl ((ab_ws G w).set a (G.2.1 + a, .inl (G.1.2 2, (xs.set i.toNatClampNeg (vp_nar .boolean x)).length, .inl (fun j => (xs.set i.toNatClampNeg (vp_nar .boolean x)).getD j 0)))) H1; rw [List.length_set]; exact hP1) hS1
        · cases hr
    · cases hr
  · cases hr
theorem ab_rvc (G : ab_G) (o : Option Nat) : va_rf (o.map (ab_ad G)) = ab_cv G (ab_rv o) := by cases o <;> rfl
theorem sn_aald {t : Nat} {C : String} (hd : decode Y.1 pc = .ok (.aaload, 1)) (ht : (ab_tys G)[t]? = some (G.1.2 t, .object C)) (h : ab_Sd G Z d Y (pc + 1) k) : ab_Sd G Z d Y pc (o_aald t k) := by
  refine h.step fun lv st w r hr => ?_
  unfold o_aald at hr
  split at hr
  · rename_i i a st'
    split at hr
    · rename_i xs hx
      split at hr
      · cases hr
      · rename_i hi
        split at hr
        · rename_i x hv
          have h1 := ab_ra_some hx
          refine ⟨lv, ab_rv x :: st', w, hr, ab_le.rf, fun p l e R s m args below meth c Q n0 t0 N T hX hR hn ht2 hN hT kk ls H locs hl ha hS => ?_⟩
          show W p l e R s m args below meth c H locs _ _ Q (F0 m pc ls (.int i :: .ref (ab_ad G a) :: st'.map (ab_cv G)))
          rw [ab_ad_in ha h1]
          refine va_aldq (f := fun j => (xs.getD j none).map (ab_ad G)) hX.1 hX.2.1 hX.2.2.2.2.2.1 ha.1 a t (ab_ws_at h1) ht (ab_in hi (List.getElem?_eq_some_iff.mp hv).1) hd ?_
          have e1 : xs.getD i.toNatClampNeg none = x := by rw [List.getD_eq_getElem?_getD, hv]; rfl
          rw [e1, ab_rvc]
          exact kk ls H locs hl ha hS
        · cases hr
    · cases hr
  · cases hr
theorem ab_up_set {G : ab_G} {xs : List (Option Nat)} {i : Nat} {y : Option Nat} (h : i < xs.length) : va_up (fun j => (xs.getD j none).map (ab_ad G)) i (y.map (ab_ad G)) = fun j => ((xs.set i y).getD j none).map (ab_ad G) := by
  funext j
  unfold va_up
  dsimp only
  rw [List.getD_eq_getElem?_getD, List.getD_eq_getElem?_getD, List.getElem?_set]
  by_cases hj : j = i
  · subst hj
    simp [h]
  · rw [if_neg hj, if_neg (fun q => hj q.symm)]
theorem sn_aast {t ci : Nat} {q : vw_C} (hd : decode Y.1 pc = .ok (.aastore, 1)) (ht : (ab_tys G)[t]? = some (G.1.2 t, .object q.1)) (hc : vwCl[ci]? = some q) (h : ab_Sd G Z d Y (pc + 1) k) : ab_Sd G Z d Y pc (o_aast t ci k) := by
  refine h.step fun lv st w r hr => ?_
  unfold o_aast at hr
  split at hr
  · rename_i v i a st'
    split at hr
    · rename_i xs hx
      split at hr
      · cases hr
      · rename_i hi
        split at hr
        · rename_i c' vs hv
          split at hr
          · rename_i hcc
            obtain ⟨hcc, hlt⟩ := hcc
            subst hcc
            have h1 := ab_ra_some hx
            have hsz : ab_sz (.inr (.inr (t, xs.set i.toNatClampNeg (some v)))) = ab_sz (.inr (.inr (t, xs))) := List.length_set
            refine ⟨lv, st', _, hr, ab_le.set h1 hsz, fun p l e R s m args below meth c Q n0 t0 N T hX hR hn ht2 hN hT kk ls H locs hl ha hS => ?_⟩
            show W p l e R s m args below meth c H locs _ _ Q (F0 m pc ls (.ref (ab_ad G v) :: .int i :: .ref (ab_ad G a) :: st'.map (ab_cv G)))
            have e5 := ab_ad_in ha hv
            rw [ab_ad_in ha h1, e5]
            refine va_astq (f := fun j => (xs.getD j none).map (ab_ad G)) hX.1 hX.2.1 hX.2.2.2.2.2.1 ha.1 (ab_D G w) hS a t v c' (ab_ws_at h1) ht (ab_ws_at hv) hc (ab_in hi hlt) hd (fun H1 locs1 hP1 hD1 hS1 => ?_)
            rw [show (some (G.2.1 + v) : Option Nat) = (some v : Option Nat).map (ab_ad G) by rw [Option.map_some, e5], ab_up_set hlt] at hP1
            exact ab_setJ hX hn ha h1 hsz hl kk (by show va_P G.1.1 vwCl ((ab_ws G w).set a (G.2.1 + a, .inl (G.1.2 t, (xs.set i.toNatClampNeg (some v)).length, .inr (.inr (.inr (.inr (fun j => ((xs.set i.toNatClampNeg (some v)).getD j none).map (ab_ad G)))))))) H1; rw [List.length_set]; exact hP1) hS1
          · cases hr
        · cases hr
    · cases hr
  · rename_i i a st'
    split at hr
    · rename_i xs hx
      split at hr
      · cases hr
      · rename_i hi
        split at hr
        · rename_i hlt
          have h1 := ab_ra_some hx
          have hsz : ab_sz (.inr (.inr (t, xs.set i.toNatClampNeg none))) = ab_sz (.inr (.inr (t, xs))) := List.length_set
          refine ⟨lv, st', _, hr, ab_le.set h1 hsz, fun p l e R s m args below meth c Q n0 t0 N T hX hR hn ht2 hN hT kk ls H locs hl ha hS => ?_⟩
          show W p l e R s m args below meth c H locs _ _ Q (F0 m pc ls (.null :: .int i :: .ref (ab_ad G a) :: st'.map (ab_cv G)))
          rw [ab_ad_in ha h1]
          refine va_astqN (f := fun j => (xs.getD j none).map (ab_ad G)) hX.1 hX.2.1 hX.2.2.2.2.2.1 ha.1 (ab_D G w) hS a t (ab_ws_at h1) ht (ab_in hi hlt) hd (fun H1 locs1 hP1 hD1 hS1 => ?_)
          have e6 : va_up (fun j => (xs.getD j none).map (ab_ad G)) i.toNatClampNeg none = fun j => ((xs.set i.toNatClampNeg none).getD j none).map (ab_ad G) := ab_up_set (G := G) (y := none) hlt
          rw [e6] at hP1
          exact ab_setJ hX hn ha h1 hsz hl kk (by show va_P G.1.1 vwCl ((ab_ws G w).set a (G.2.1 + a, .inl (G.1.2 t, (xs.set i.toNatClampNeg none).length, .inr (.inr (.inr (.inr (fun j => ((xs.set i.toNatClampNeg none).getD j none).map (ab_ad G)))))))) H1; rw [List.length_set]; exact hP1) hS1
        · cases hr
    · cases hr
  · cases hr
theorem sn_alenI {t : Nat} {ty : FieldType} (hd : decode Y.1 pc = .ok (.arraylength, 1)) (ht : (ab_tys G)[t]? = some (G.1.2 t, ty)) (h : ab_Sd G Z d Y (pc + 1) k) : ab_Sd G Z d Y pc (o_alenI t k) := by
  refine h.step fun lv st w r hr => ?_
  unfold o_alenI at hr
  split at hr
  · rename_i a st'
    split at hr
    · rename_i xs hx
      have h1 := ab_ia_some hx
      refine ⟨lv, _, w, hr, ab_le.rf, fun p l e R s m args below meth c Q n0 t0 N T hX hR hn ht2 hN hT kk ls H locs hl ha hS => ?_⟩
      show W p l e R s m args below meth c H locs _ _ Q (F0 m pc ls (.ref (ab_ad G a) :: st'.map (ab_cv G)))
      rw [ab_ad_in ha h1]
      exact va_alen hX.1 hX.2.1 hX.2.2.2.2.2.1 ha.1 a t (ab_ws_at h1) ht rfl hd (kk ls H locs hl ha hS)
    · cases hr
  · cases hr
end ABH3
end
section
section ABH4
variable {G : ab_G} {Z : State → Prop} {d : Nat} {Y : ab_Y} {pc : Nat} {k : ab_K}
/-- behind a new cell -/
theorem ab_newJ {p : Program} {l : Launch} {e : Env} {R : Room} {s : State} {m : MethodId} {args : Array Value} {below : List Frame} {meth : Method} {c : Code} {Q : State → Prop} {n0 t0 pc' q : Nat} {lv : ab_L} {st' : List Value} {w : ab_W} {y : ab_C} {H1 : Heap} {ls : Array Slot} {locs : List Loc}
    (hX : ab_X G Z p s m args meth c Y n0) (hn : n0 ≤ w.length) (ht : t0 ≤ ab_tot w) (hl6 : w.length < 1000000) (hl : lv_has ls Y.2.2.1 (ab_lp G lv)) (kk : ab_J G p l e R s m args below meth c Q Y n0 t0 pc' lv (.ref w.length :: st') (w ++ [y]))
    (hP1 : va_P G.1.1 vwCl (ab_ws G w ++ [(q, ab_e G y)]) H1) (hD1 : va_D (ab_A G) (ab_ws G w ++ [(q, ab_e G y)])) (hS1 : va_S (ab_A G) s.heap H1 locs) : W p l e R s m args below meth c H1 locs (w.length - n0 + 1) (ab_tot w - t0 + ab_sz y) Q (F0 m pc' ls (.ref q :: st'.map (ab_cv G))) := by
  refine ab_sizeW fun hz => ?_
  have e1 : q = G.2.1 + w.length := ab_newq hX.2.2.2.2.2.2.2.1 hn hP1 hD1 hz
  subst e1
  rw [← ab_ws_app] at hP1
  have e2 : (w ++ [y]).length = w.length + 1 := by simp
  have e3 : ab_tot (w ++ [y]) = ab_tot w + ab_sz y := ab_tot_app w y
  have e4 : ab_cv G (.ref w.length) = .ref (G.2.1 + w.length) := by
    show Value.ref (ab_ad G w.length) = _
    unfold ab_ad
    rw [if_pos hl6]
  have k2 := kk ls H1 locs hl
  rw [List.map_cons, e4, e2, e3, show w.length + 1 - n0 = w.length - n0 + 1 by omega, show ab_tot w + ab_sz y - t0 = ab_tot w - t0 + ab_sz y by omega] at k2
  have k3 := ab_atW (p := p) (l := l) (e := e) (R := R) (m := m) (args := args) (below := below) (meth := meth) (c := c) (Q := Q) (slots := ab_tot w - t0 + ab_sz y) (g := F0 m pc' ls (.ref (G.2.1 + w.length) :: st'.map (ab_cv G))) hX.2.2.2.2.2.2.2.1 (by rw [e2]; omega) (by rw [e2]; omega) hP1 hS1
  rw [e2, show w.length + 1 - n0 = w.length - n0 + 1 by omega] at k3
  exact k3 (fun hat => k2 hat hS1)
theorem ab_room {d n0 t0 N T : Nat} {R : Room} {w : ab_W} {y : ab_C} (hR : ab_Rm d n0 t0 N T R) (hn : n0 ≤ w.length) (ht : t0 ≤ ab_tot w) (hN : (w ++ [y]).length ≤ N) (hT : ab_tot (w ++ [y]) ≤ T) : w.length - n0 + 1 ≤ R.cells ∧ ab_tot w - t0 + ab_sz y ≤ R.slots := by
  obtain ⟨-, -, h3, h4⟩ := hR
  rw [ab_tot_app] at hT
  have : (w ++ [y]).length = w.length + 1 := by simp
  omega
theorem ab_defs {G : ab_G} {fs : List Value} {N : Nat} {ty : Nat → FieldType} (hfs : fs = (List.range N).map (fun j => defaultValue (ty j))) : fs.map (ab_cv G) = fs := by
  subst hfs
  rw [List.map_map]
  apply List.map_congr_left
  intro j _
  show ab_cv G (defaultValue (ty j)) = defaultValue (ty j)
  cases ty j <;> rfl
theorem sn_new {ci N index : Nat} {C : String} {T : u_T} {fs : List Value} (ty0 : Nat → FieldType) (hty : ∀ k, k < N → parseFieldDescriptor (T k).2.2.1 = some (ty0 k)) (hd : decode Y.1 pc = .ok (.new index, 3)) (hc : vwCl[ci]? = some (C, T, N)) (hin : ∀ w ∈ u_ws C T N, w ∈ ab_GW)
    (hcl : Cond.classLink Y.2.1 index C ∈ ab_GW) (hii : Cond.instantiable C N ∈ ab_GW) (hni : Cond.initialized C ∈ ab_GW) (hfs : fs = (List.range N).map (fun j => defaultValue (ty0 j))) (h : ab_Sd G Z d Y (pc + 3) k) : ab_Sd G Z d Y pc (o_new ci fs k) := by
  refine h.step fun lv st w r hr => ?_
  unfold o_new at hr
  split at hr
  · rename_i hl6
    refine ⟨lv, _, _, hr, ab_le.app w _, fun p l e R s m args below meth c Q n0 t0 N' T' hX hR hn ht hN hT kk ls H locs hl ha hS => ?_⟩
    have hrm := ab_room hR hn ht hN hT
    have hsz : ab_sz (.inl (ci, fs)) = N := by rw [hfs]; show ((List.range N).map _).length = N; simp
    rw [hsz] at hrm
    refine va_new (fs := fs.map (ab_cv G)) hX.1 hX.2.1 hX.2.2.2.2.1 hin ty0 hty hX.2.2.2.1 (hX.2.2.2.2.1 _ hcl) (hX.2.2.2.2.1 _ hii) (hX.2.2.2.2.1 _ hni) hX.2.2.2.2.2.1 ha.1 (ab_D G w) hS (fun q hq => by have := hX.2.2.2.2.2.2.2.1; show G.2.1 ≤ q; omega) hc ?_ hrm.1 hrm.2 hd (fun q H1 hP1 hD1 hS1 => ?_)
    · intro j hj
      rw [ab_defs hfs, hfs]
      show _ = ((List.range N).map (fun j => defaultValue (ty0 j))).getD j .null
      rw [List.getD_eq_getElem?_getD, List.getElem?_map, List.getElem?_range hj]
      rfl
    · have k2 := ab_newJ (y := .inl (ci, fs)) hX hn ht hl6 hl kk hP1 hD1 hS1
      rw [hsz] at k2
      exact k2
  · cases hr
theorem sn_newi {t : Nat} {atype : ArrayType} {ty : FieldType} (hd : decode Y.1 pc = .ok (.newarray atype, 2)) (hty : newarray.typeOf atype = ty) (hw : Cond.arrayClass (newarray.typeOf atype) ∈ ab_GW) (ht0 : (ab_tys G)[t]? = some (G.1.2 t, ty)) (hp : ∀ (U : State) (cA : ClassId), va_RA U cA ty → U.vm.findClass ("[" ++ ty.toString) = some cA) (hdv : defaultValue ty = .int 0) (hby : componentBytes ty ≤ 8) (h : ab_Sd G Z d Y (pc + 2) k) : ab_Sd G Z d Y pc (o_newi t k) := by
  refine h.step fun lv st w r hr => ?_
  unfold o_newi at hr
  split at hr
  · rename_i n st'
    split at hr
    · cases hr
    · rename_i hn0
      split at hr
      · rename_i hl6
        refine ⟨lv, _, _, hr, ab_le.app w _, fun p l e R s m args below meth c Q n0 t0 N' T' hX hR hn ht hN hT kk ls H locs hl ha hS => ?_⟩
        have hrm := ab_room hR hn ht hN hT
        have hsz : ab_sz (.inr (.inl (t, List.replicate n.toNatClampNeg (0 : Int32)))) = n.toNatClampNeg := List.length_replicate
        rw [hsz] at hrm
        have e0 : (fun j => (List.replicate n.toNatClampNeg (0 : Int32)).getD j 0) = fun _ => 0 := by
          funext j
          rw [List.getD_eq_getElem?_getD, List.getElem?_replicate]
          split <;> rfl
        refine va_newa (ty := ty) (a0 := (n.toNatClampNeg, .inl (fun _ => 0))) hX.1 hX.2.1 (hX.2.2.2.2.1 _ hw) hty hX.2.2.2.2.2.1 ha.1 (ab_D G w) hS (fun q hq => by have := hX.2.2.2.2.2.2.2.1; show G.2.1 ≤ q; omega) (fun cA => by rw [vp_cell_i, hdv]) hn0 rfl (Nat.le_trans (Nat.mul_le_mul hl6.2 hby) (Nat.le_of_ble_eq_true rfl)) hrm.1 hrm.2 hd (fun q cA H1 hK1 hP1 hD1 hS1 => ?_)
        have ecA : cA = G.1.2 t := by
          have h1 := hp s cA (hK1.2 7 (cA, ty) rfl).2
          have h2 := hp s (G.1.2 t) (hX.2.2.2.2.2.1.2 t _ ht0).2
          exact Option.some.inj (h1.symm.trans h2)
        subst ecA
        have e1 : ab_e G (.inr (.inl (t, List.replicate n.toNatClampNeg (0 : Int32)))) = .inl (G.1.2 t, n.toNatClampNeg, .inl (fun _ => 0)) := by
          show Sum.inl (G.1.2 t, (List.replicate n.toNatClampNeg (0 : Int32)).length, Sum.inl (fun j => (List.replicate n.toNatClampNeg (0 : Int32)).getD j 0)) = _
          rw [e0, List.length_replicate]
        rw [← e1] at hP1 hD1
        have k2 := ab_newJ hX hn ht hl6.1 hl kk hP1 hD1 hS1
        rw [hsz] at k2
        exact k2
      · cases hr
  · cases hr
theorem sn_newa {t index : Nat} {C : String} (hd : decode Y.1 pc = .ok (.anewarray index, 3)) (hcl : Cond.classLink Y.2.1 index C ∈ ab_GW) (hov : ∀ U, Z U → va_AO C U) (ht0 : (ab_tys G)[t]? = some (G.1.2 t, .object C)) (h : ab_Sd G Z d Y (pc + 3) k) : ab_Sd G Z d Y pc (o_newa t k) := by
  refine h.step fun lv st w r hr => ?_
  unfold o_newa at hr
  split at hr
  · rename_i n st'
    split at hr
    · cases hr
    · rename_i hn0
      split at hr
      · rename_i hl6
        refine ⟨lv, _, _, hr, ab_le.app w _, fun p l e R s m args below meth c Q n0 t0 N' T' hX hR hn ht hN hT kk ls H locs hl ha hS => ?_⟩
        have hrm := ab_room hR hn ht hN hT
        have hsz : ab_sz (.inr (.inr (t, List.replicate n.toNatClampNeg (none : Option Nat)))) = n.toNatClampNeg := List.length_replicate
        rw [hsz] at hrm
        have e0 : (fun j => ((List.replicate n.toNatClampNeg (none : Option Nat)).getD j none).map (ab_ad G)) = fun _ => none := by
          funext j
          rw [List.getD_eq_getElem?_getD, List.getElem?_replicate]
          split <;> rfl
        refine va_newq hX.1 hX.2.1 hX.2.2.2.1 (hX.2.2.2.2.1 _ hcl) (hov s hX.2.2.2.2.2.2.1) hX.2.2.2.2.2.1 ha.1 (ab_D G w) hS (fun q hq => by have := hX.2.2.2.2.2.2.2.1; show G.2.1 ≤ q; omega) hn0 rfl (Nat.le_trans (Nat.mul_le_mul_right 4 hl6.2) (Nat.le_of_ble_eq_true rfl)) hrm.1 hrm.2 hd (fun q cA H1 hK1 hP1 hD1 hS1 => ?_)
        have ecA : cA = G.1.2 t := by
          obtain ⟨k1, c1, a1, a2, a3, a4⟩ := (hK1.2 7 (cA, .object C) rfl).2
          obtain ⟨k2, c2, b1, b2, b3, b4⟩ := (hX.2.2.2.2.2.1.2 t _ ht0).2
          exact Option.some.inj (a4.symm.trans b4)
        subst ecA
        have e1 : ab_e G (.inr (.inr (t, List.replicate n.toNatClampNeg (none : Option Nat)))) = .inl (G.1.2 t, n.toNatClampNeg, .inr (.inr (.inr (.inr (fun _ => none))))) := by
          show Sum.inl (G.1.2 t, (List.replicate n.toNatClampNeg (none : Option Nat)).length, Sum.inr (Sum.inr (Sum.inr (Sum.inr (fun j => ((List.replicate n.toNatClampNeg (none : Option Nat)).getD j none).map (ab_ad G)))))) = _
          rw [e0, List.length_replicate]
        rw [← e1] at hP1 hD1
        have k2 := ab_newJ hX hn ht hl6.1 hl kk hP1 hD1 hS1
        rw [hsz] at k2
        exact k2
      · cases hr
  · cases hr
end ABH4
end
section
section ABM
variable {G : ab_G} {Z : State → Prop} {d : Nat} {Y : ab_Y} {pc : Nat} {k : ab_K}
theorem ab_cat (G : ab_G) (st : List Value) : ((st.map (ab_cv G)).map fun v => v.category) = st.map fun v => v.category := by
  rw [List.map_map]
  exact List.map_congr_left (fun v _ => ab_cv_cat G v)
theorem ab_cl_le {G : ab_G} {st : List Value} (h : ab_cl st = true) : ((st.map (ab_cv G)).map fun v => v.category).sum ≤ 8 := by
  rw [ab_cat]
  exact of_decide_eq_true h
theorem sn_oinit {idx : Nat} (h1 : 1 ≤ d) (hd : decode Y.1 pc = .ok (.invokespecial idx, 3)) (hl : Cond.methodLink Y.2.1 idx Lib.objectInit ∈ ab_GW) (hi : Cond.instanceMethod Lib.objectInit ∈ ab_GW) (hc : Cond.code Lib.objectInit ⟨#[0xb1]⟩ 1 none ∈ ab_GW) (h : ab_Sd G Z d Y (pc + 3) k) : ab_Sd G Z d Y pc (o_oinit k) := by
  refine h.step fun lv st w r hr => ?_
  unfold o_oinit at hr
  split at hr
  · rename_i a st'
    split at hr
    · rename_i hcl
      refine ⟨lv, st', w, hr, ab_le.rf, fun p l e R s m args below meth c Q n0 t0 N T hX hR hn ht hN hT kk ls H locs hlv ha hS => ?_⟩
      have hR1 := hR.1
      have hR2 := hR.2.1
      have hc8 := ab_cl_le (G := G) hcl
      refine W.objInit hX.1 hX.2.1 hX.2.2.2.1 (hX.2.2.2.2.1 _ hl) (hX.2.2.2.2.1 _ hi) (hX.2.2.2.2.1 _ hc) rfl (by rw [hX.2.2.1]; exact hlv.1) rfl hd (by omega) ?_ (kk ls H locs hlv ha hS)
      show 2 * 0 + _ + 12 ≤ R.locals
      omega
    · cases hr
  · cases hr
theorem sn_mmax {idx : Nat} {f : Int32 → Int32 → Int32} (h1 : 1 ≤ d) (hf : f = fun x y => if x < y then y else x) (hd : decode Y.1 pc = .ok (.invokestatic idx, 3)) (hl : Cond.methodLink Y.2.1 idx Lib.Math.max.name ∈ ab_GW) (hi : Cond.static Lib.Math.max.name ∈ ab_GW) (hii : Cond.initialized "java/lang/Math" ∈ ab_GW) (hc : Cond.code Lib.Math.max.name Lib.Math.max.code 2 (some .int) ∈ ab_GW) (h : ab_Sd G Z d Y (pc + 3) k) : ab_Sd G Z d Y pc (o_m2 f k) := by
  subst hf
  refine h.step fun lv st w r hr => ?_
  unfold o_m2 at hr
  split at hr
  · rename_i y x st'
    split at hr
    · rename_i hcl
      refine ⟨lv, _, w, hr, ab_le.rf, fun p l e R s m args below meth c Q n0 t0 N T hX hR hn ht hN hT kk ls H locs hlv ha hS => ?_⟩
      obtain ⟨hR1, hR2, hR3, hR4⟩ := hR
      have hc8 := ab_cl_le (G := G) hcl
      exact va_mmax hX.1 hX.2.1 (by rw [hX.2.2.1]; exact hlv.1.symm) hX.2.2.2.1 (hX.2.2.2.2.1 _ hl) (hX.2.2.2.2.1 _ hi) (hX.2.2.2.2.1 _ hii) (hX.2.2.2.2.1 _ hc) (by omega) (by omega) (by omega) (by omega) hd (kk ls H locs hlv ha hS)
    · cases hr
  · cases hr
theorem sn_mmin {idx : Nat} {f : Int32 → Int32 → Int32} (h1 : 1 ≤ d) (hf : f = fun x y => if y < x then y else x) (hd : decode Y.1 pc = .ok (.invokestatic idx, 3)) (hl : Cond.methodLink Y.2.1 idx Lib.Math.min.name ∈ ab_GW) (hi : Cond.static Lib.Math.min.name ∈ ab_GW) (hii : Cond.initialized "java/lang/Math" ∈ ab_GW) (hc : Cond.code Lib.Math.min.name Lib.Math.min.code 2 (some .int) ∈ ab_GW) (h : ab_Sd G Z d Y (pc + 3) k) : ab_Sd G Z d Y pc (o_m2 f k) := by
  subst hf
  refine h.step fun lv st w r hr => ?_
  unfold o_m2 at hr
  split at hr
  · rename_i y x st'
    split at hr
    · rename_i hcl
      refine ⟨lv, _, w, hr, ab_le.rf, fun p l e R s m args below meth c Q n0 t0 N T hX hR hn ht hN hT kk ls H locs hlv ha hS => ?_⟩
      obtain ⟨hR1, hR2, hR3, hR4⟩ := hR
      have hc8 := ab_cl_le (G := G) hcl
      exact va_mmin hX.1 hX.2.1 (by rw [hX.2.2.1]; exact hlv.1.symm) hX.2.2.2.1 (hX.2.2.2.2.1 _ hl) (hX.2.2.2.2.1 _ hi) (hX.2.2.2.2.1 _ hii) (hX.2.2.2.2.1 _ hc) (by omega) (by omega) (by omega) (by omega) hd (kk ls H locs hlv ha hS)
    · cases hr
  · cases hr
theorem sn_mabs {idx : Nat} {f : Int32 → Int32} (h1 : 1 ≤ d) (hf : f = fun x => if 0 ≤ x then x else 0 - x) (hd : decode Y.1 pc = .ok (.invokestatic idx, 3)) (hl : Cond.methodLink Y.2.1 idx Lib.Math.abs.name ∈ ab_GW) (hi : Cond.static Lib.Math.abs.name ∈ ab_GW) (hii : Cond.initialized "java/lang/Math" ∈ ab_GW) (hc : Cond.code Lib.Math.abs.name Lib.Math.abs.code 1 (some .int) ∈ ab_GW) (h : ab_Sd G Z d Y (pc + 3) k) : ab_Sd G Z d Y pc (o_m1 f k) := by
  subst hf
  refine h.step fun lv st w r hr => ?_
  unfold o_m1 at hr
  split at hr
  · rename_i x st'
    split at hr
    · rename_i hcl
      refine ⟨lv, _, w, hr, ab_le.rf, fun p l e R s m args below meth c Q n0 t0 N T hX hR hn ht hN hT kk ls H locs hlv ha hS => ?_⟩
      obtain ⟨hR1, hR2, hR3, hR4⟩ := hR
      have hc8 := ab_cl_le (G := G) hcl
      exact va_mabs hX.1 hX.2.1 (by rw [hX.2.2.1]; exact hlv.1.symm) hX.2.2.2.1 (hX.2.2.2.2.1 _ hl) (hX.2.2.2.2.1 _ hi) (hX.2.2.2.2.1 _ hii) (hX.2.2.2.2.1 _ hc) (by omega) (by omega) (by omega) (by omega) hd (kk ls H locs hlv ha hS)
    · cases hr
  · cases hr
theorem ab_cp_len {xs ys : List Int32} {sp dp n : Nat} (h1 : sp + n ≤ xs.length) (h2 : dp + n ≤ ys.length) : (ab_cp xs ys sp dp n).length = ys.length := by
  unfold ab_cp
  simp
  omega
theorem ab_cp_get {xs ys : List Int32} {sp dp n : Nat} (h1 : sp + n ≤ xs.length) (h2 : dp + n ≤ ys.length) (j : Nat) : (ab_cp xs ys sp dp n)[j]? = if dp ≤ j ∧ j < dp + n then xs[sp + (j - dp)]? else ys[j]? := by
  unfold ab_cp
  have e1 : (ys.take dp).length = dp := by simp; omega
  have e2 : ((xs.drop sp).take n).length = n := by simp; omega
  rcases Nat.lt_or_ge j dp with h | h
  · rw [List.getElem?_append_left (by rw [e1]; exact h), List.getElem?_take, if_pos h, if_neg (by omega)]
  · rw [List.getElem?_append_right (by rw [e1]; exact h), e1]
    rcases Nat.lt_or_ge j (dp + n) with h3 | h3
    · rw [List.getElem?_append_left (by rw [e2]; omega), List.getElem?_take, if_pos (by omega), List.getElem?_drop, if_pos ⟨h, h3⟩]
    · rw [List.getElem?_append_right (by rw [e2]; omega), e2, List.getElem?_drop, if_neg (by omega)]
      congr 1
      omega
theorem ab_cpy {xs ys : List Int32} {sp dp n : Nat} (h1 : sp + n ≤ xs.length) (h2 : dp + n ≤ ys.length) : va_cpy (fun j => xs.getD j 0) (fun j => ys.getD j 0) sp dp n = fun j => (ab_cp xs ys sp dp n).getD j 0 := by
  funext j
  unfold va_cpy
  dsimp only
  rw [List.getD_eq_getElem?_getD, List.getD_eq_getElem?_getD, List.getD_eq_getElem?_getD, ab_cp_get h1 h2]
  split <;> rfl
theorem sn_acopy {idx : Nat} (h1 : 1 ≤ d) (hd : decode Y.1 pc = .ok (.invokestatic idx, 3)) (hl : Cond.methodLink Y.2.1 idx arraycopyName ∈ ab_GW) (hna : Cond.native arraycopyName ∈ ab_GW) (hst : Cond.static arraycopyName ∈ ab_GW) (hii : Cond.initialized "java/lang/System" ∈ ab_GW) (h : ab_Sd G Z d Y (pc + 3) k) : ab_Sd G Z d Y pc (o_acopy k) := by
  refine h.step fun lv st w r hr => ?_
  unfold o_acopy at hr
  split at hr
  · rename_i n dp b sp a st'
    split at hr
    · rename_i xs ys hx hy
      split at hr
      · cases hr
      · rename_i hneg
        split at hr
        · rename_i hin
          obtain ⟨q1, q2, hcl⟩ := hin
          have ha1 := ab_ia_some hx
          have hb1 := ab_ia_some hy
          have hsz : ab_sz (.inr (.inl (0, ab_cp xs ys sp.toNatClampNeg dp.toNatClampNeg n.toNatClampNeg))) = ab_sz (.inr (.inl (0, ys))) := ab_cp_len q1 q2
          refine ⟨lv, st', _, hr, ab_le.set hb1 hsz, fun p l e R s m args below meth c Q n0 t0 N T hX hR hn ht hN hT kk ls H locs hlv ha hS => ?_⟩
          obtain ⟨hR1, hR2, hR3, hR4⟩ := hR
          have hc8 := ab_cl_le (G := G) hcl
          show W p l e R s m args below meth c H locs _ _ Q (F0 m pc ls (.int n :: .int dp :: .ref (ab_ad G b) :: .int sp :: .ref (ab_ad G a) :: st'.map (ab_cv G)))
          rw [ab_ad_in ha ha1, ab_ad_in ha hb1]
          refine va_copyi (ty := .int) (f := fun j => xs.getD j 0) (g := fun j => ys.getD j 0) hX.1 hX.2.1 (by rw [hX.2.2.1]; exact hlv.1.symm) hX.2.2.2.1 (hX.2.2.2.2.1 _ hl) (hX.2.2.2.2.1 _ hna) (hX.2.2.2.2.1 _ hst) (hX.2.2.2.2.1 _ hii) hX.2.2.2.2.2.1 ha.1 (ab_D G w) hS a b 0 0 (ab_ws_at ha1) (ab_ws_at hb1) rfl rfl rfl (fun z => hneg (Or.inl z)) (fun z => hneg (Or.inr (Or.inl z))) (fun z => hneg (Or.inr (Or.inr z))) q1 q2 (fun _ _ => rfl) (by omega) ?_ hd (fun H1 locs1 hP1 hD1 hS1 => ?_)
          · have : nativeFrameWords "java/lang/System" "arraycopy" 5 ≤ 40 := by decide +kernel
            omega
          · rw [ab_cpy q1 q2] at hP1
            exact ab_setJ hX hn ha hb1 hsz hlv kk (by show va_P G.1.1 vwCl ((ab_ws G w).set b (G.2.1 + b, .inl (G.1.2 0, (ab_cp xs ys sp.toNatClampNeg dp.toNatClampNeg n.toNatClampNeg).length, .inl (fun j => (ab_cp xs ys sp.toNatClampNeg dp.toNatClampNeg n.toNatClampNeg).getD j 0)))) H1; rw [ab_cp_len q1 q2]; exact hP1) hS1
        · cases hr
    · cases hr
  · cases hr
/-! switches: a table of blocks -/
def ab_tsw (lo : Int) (bs : List Nat) (df : Nat) (x : Int32) : Nat := if x.toInt < lo then df else bs.getD (x.toInt - lo).toNat df
def ab_lsw (ks : List (Int × Nat)) (df : Nat) (x : Int) : Nat := match ks with
  | [] => df
  | (a, b) :: r => if x = a then b else ab_lsw r df x
theorem sn_tsw {df0 lo hi : Int} {offs : Array Int} {len df : Nat} {bs : List Nat} (hd : decode Y.1 pc = .ok (.tableswitch df0 lo hi offs, len)) (hlen : hi = lo + bs.length - 1)
    (ht : offs.toList.map (fun o => some ((pc : Int) + o)) = bs.map (fun b => (Y.2.2.2.2.2[b]?).map (fun q : Nat => (q : Int)))) (hdf : some ((pc : Int) + df0) = (Y.2.2.2.2.2[df]?).map (fun q : Nat => (q : Int))) : ab_Sd G Z d Y pc (o_sw (ab_tsw lo bs df)) := by
  refine ab_Sd.jmp fun lv st w r hr => ?_
  unfold o_sw at hr
  split at hr
  · rename_i x st'
    have hdf2 : ∃ tg, Y.2.2.2.2.2[df]? = some tg ∧ (pc : Int) + df0 = tg := by
      cases hq : Y.2.2.2.2.2[df]? with
      | none => rw [hq] at hdf; cases hdf
      | some tg => rw [hq] at hdf; exact ⟨tg, rfl, Option.some.inj hdf⟩
    obtain ⟨tgd, hd1, hd2⟩ := hdf2
    have hl2 : offs.toList.length = bs.length := by have := congrArg List.length ht; simpa using this
    by_cases h1 : x.toInt < lo
    · refine ⟨df, lv, st', tgd, ?_, hd1, fun p l e R s m args below meth c Q n0 t0 hX kk ls H locs hl ha hS => lv_tableOut hX.1 hX.2.1 hd (Or.inl h1) hd2 (kk ls H locs hl ha hS)⟩
      rw [← Option.some.inj hr]
      unfold ab_tsw
      rw [if_pos h1]
    · by_cases h2 : hi < x.toInt
      · refine ⟨df, lv, st', tgd, ?_, hd1, fun p l e R s m args below meth c Q n0 t0 hX kk ls H locs hl ha hS => lv_tableOut hX.1 hX.2.1 hd (Or.inr h2) hd2 (kk ls H locs hl ha hS)⟩
        rw [← Option.some.inj hr]
        unfold ab_tsw
        rw [if_neg h1, List.getD_eq_getElem?_getD, List.getElem?_eq_none (by omega)]
        rfl
      · have hj : (x.toInt - lo).toNat < bs.length := by omega
        have hb1 : bs[(x.toInt - lo).toNat]? = some bs[(x.toInt - lo).toNat] := List.getElem?_eq_getElem hj
        have ho1 : offs.toList[(x.toInt - lo).toNat]? = some (offs.toList[(x.toInt - lo).toNat]'(by rw [hl2]; exact hj)) := List.getElem?_eq_getElem (by rw [hl2]; exact hj)
        have e1 := congrArg (fun l => l[(x.toInt - lo).toNat]?) ht
        simp only [List.getElem?_map, hb1, ho1, Option.map_some] at e1
        cases hq : Y.2.2.2.2.2[bs[(x.toInt - lo).toNat]]? with
        | none => rw [hq] at e1; cases e1
        | some tg =>
          rw [hq] at e1
          have e2 := Option.some.inj (Option.some.inj e1)
          refine ⟨_, lv, st', tg, ?_, hq, fun p l e R s m args below meth c Q n0 t0 hX kk ls H locs hl ha hS => lv_tableIn hX.1 hX.2.1 hd h1 h2 (by rw [← Array.getElem?_toList]; exact ho1) e2 (kk ls H locs hl ha hS)⟩
          rw [← Option.some.inj hr]
          unfold ab_tsw
          rw [if_neg h1, List.getD_eq_getElem?_getD, hb1]
          rfl
  · cases hr
theorem ab_lsw_off {g : Nat → Int} (ks : List (Int × Nat)) (df : Nat) (x : Int) : Op.lookupswitch.offset (ks.map (fun q => (q.1, g q.2))) (g df) x = g (ab_lsw ks df x) := by
  induction ks with
  | nil => rfl
  | cons q r ih =>
    obtain ⟨a, b⟩ := q
    show Op.lookupswitch.offset ((a, g b) :: r.map (fun q => (q.1, g q.2))) (g df) x = g (if x = a then b else ab_lsw r df x)
    unfold Op.lookupswitch.offset
    by_cases h : x = a
    · subst h; simp
    · have h' : ¬ a = x := fun q => h q.symm
      simp [h, h', ih]
theorem sn_lsw {df0 : Int} {ps : Array (Int × Int)} {len df : Nat} {ks : List (Int × Nat)} (hd : decode Y.1 pc = .ok (.lookupswitch df0 ps, len)) (hp : (ps.toList.zip (ps.toList.drop 1)).all (fun (a, next) => a.1 < next.1) = true)
    (hk : ps.toList = ks.map (fun q => (q.1, ((Y.2.2.2.2.2.getD q.2 0 : Nat) : Int) - pc))) (hdf : df0 = ((Y.2.2.2.2.2.getD df 0 : Nat) : Int) - pc) (hin : df < Y.2.2.2.2.2.length ∧ ∀ q ∈ ks, q.2 < Y.2.2.2.2.2.length) : ab_Sd G Z d Y pc (o_sw (fun x => ab_lsw ks df x.toInt)) := by
  refine ab_Sd.jmp fun lv st w r hr => ?_
  unfold o_sw at hr
  split at hr
  · rename_i x st'
    have hlt : ∀ (l : List (Int × Nat)) (z : Int), (∀ q ∈ l, q.2 < Y.2.2.2.2.2.length) → ab_lsw l df z < Y.2.2.2.2.2.length := by
      intro l z
      induction l with
      | nil => intro _; exact hin.1
      | cons q r ih =>
        intro hq
        obtain ⟨a, b⟩ := q
        show (if z = a then b else ab_lsw r df z) < _
        split
        · exact hq _ List.mem_cons_self
        · exact ih (fun q h => hq q (List.mem_cons_of_mem _ h))
    have hb := hlt ks x.toInt hin.2
    refine ⟨ab_lsw ks df x.toInt, lv, st', Y.2.2.2.2.2.getD (ab_lsw ks df x.toInt) 0, (Option.some.inj hr).symm, ?_, fun p l e R s m args below meth c Q n0 t0 hX kk ls H locs hl ha hS => lv_lookup (off := ((Y.2.2.2.2.2.getD (ab_lsw ks df x.toInt) 0 : Nat) : Int) - pc) hX.1 hX.2.1 hd hp ?_ (by omega) (kk ls H locs hl ha hS)⟩
    · rw [List.getD_eq_getElem?_getD, List.getElem?_eq_getElem hb]
      rfl
    · rw [hk, hdf]
      exact ab_lsw_off (g := fun b => ((Y.2.2.2.2.2.getD b 0 : Nat) : Int) - pc) ks df x.toInt
  · cases hr
end ABM
end
section
/-! ===== calls ===== -/
/-- a method's name, code, locals, answer -/
abbrev ab_M : Type := MethodName × ByteArray × Nat × Option FieldType
def ab_rm (d : Nat) (w w' : ab_W) : Room := { frames := d, cells := w'.length - w.length, slots := ab_tot w' - ab_tot w, locals := 64 * d }
def ab_Pc (G : ab_G) (Z : State → Prop) (As : List Value) (w : ab_W) : Array Value → State → Prop := fun v U => v = (As.map (ab_cv G)).toArray ∧ ab_at G w U.heap ∧ va_K G.1.1 vwCl (ab_tys G) U ∧ Z U ∧ ab_St G Z
def ab_Qc (G : ab_G) (v : Option Value) (w' : ab_W) : Array Value → State → Outcome → State → Prop := fun _ st o t => o = .returned (v.map (ab_cv G)) ∧ ab_at G w' t.heap ∧ va_F (ab_A G) st t
abbrev ab_mw (M : ab_M) : List Cond := .code M.1 M.2.1 M.2.2.1 M.2.2.2 :: ab_GW
def ab_CS (G : ab_G) (Z : State → Prop) (M : Nat → ab_M) (cal : ab_F) (d : Nat) : Prop := ∀ i As w v w', cal i As w = some (v, w') → ab_le w w' ∧ ∀ l, Met l (M i).1 (ab_mw (M i)) (ab_rm d w w') (ab_Pc G Z As w) (ab_Qc G v w') (w'.length - w.length) (ab_tot w' - ab_tot w) (ab_A G)
def o_callS (cal : ab_F) (i n : Nat) (k : ab_K) : ab_K := fun lv st w => if n ≤ st.length ∧ ab_cl (st.drop n) = true then (match cal i (st.take n).reverse w with
  | some (v, w') => k lv (v.toList ++ st.drop n) w'
  | none => none) else none
def o_callV (cal : ab_F) (i n ci : Nat) (k : ab_K) : ab_K := fun lv st w => match st.drop n with
  | .ref b :: rest => (match w[b]? with
    | some (.inl (c, _)) => if c = ci ∧ ab_cl rest = true then (match cal i (.ref b :: (st.take n).reverse) w with
      | some (v, w') => k lv (v.toList ++ rest) w'
      | none => none) else none
    | _ => none)
  | _ => none
def o_callI (cal : ab_F) (i n : Nat) (k : ab_K) : ab_K := fun lv st w => match st.drop n with
  | .ref b :: rest => if ab_cl rest = true then (match cal i (.ref b :: (st.take n).reverse) w with
      | some (v, w') => k lv (v.toList ++ rest) w'
      | none => none) else none
  | _ => none
section ABK
variable {G : ab_G} {Z : State → Prop} {d : Nat} {Y : ab_Y} {pc : Nat} {k : ab_K} {M : Nat → ab_M} {cal : ab_F}
theorem ab_callW {p : Program} {l : Launch} {e : Env} {R : Room} {s : State} {m : MethodId} {args : Array Value} {below : List Frame} {meth : Method} {c : Code} {H : Heap} {locs : List Loc} {cells slots mc ms : Nat} {Q : State → Prop} {g : JFrame} {rest : List Value} {Qa : State → Outcome → State → Prop} {free : Addr → Prop}
    (hr : va_Run p l e R s m args below meth c H locs cells slots mc ms g rest Qa free) (kk : ∀ (v : Option Value) (st₀ t : State) (L : List Loc), st₀.heap = H → (∀ q ∈ L, free q.base) → Qa st₀ (.returned v) t → W p l e R s m args below meth c t.heap (locs ++ L) (cells + mc) (slots + ms) Q { g with pc := g.pc + 3, stack := v.toList ++ rest }) : W p l e R s m args below meth c H locs cells slots Q g := by
  intro T hT X
  obtain ⟨v, st₀, t, T', L, h0, X', hL, e1, e2, hq, st⟩ := hr T hT X
  obtain ⟨t2, a1, b1⟩ := kk v st₀ t L h0 hL hq T' e1 X'
  exact ⟨t2, st t2 a1, b1⟩
theorem ab_Pc_blind (hst : ab_St G Z) (As : List Value) (w : ab_W) : FrameBlind (ab_Pc G Z As w) := by
  intro a U g mk q
  obtain ⟨q1, q2, q3, q4, q5⟩ := q
  exact ⟨q1, q2, va_K.moved (u := U) (U := U.calling g mk a) (Vm.Alike.refl U.vm) q3, hst U _ q4 (State.WarmedH.refl U) (fun _ _ => rfl), q5⟩
theorem ab_goodM {M : ab_M} (hc : Cond.code M.1 M.2.1 M.2.2.1 M.2.2.2 ∈ ab_GW) : GoodIn ab_GW (ab_mw M) := by
  intro w hw
  rcases List.mem_cons.mp hw with rfl | h
  · exact ⟨hc, good_of_word (List.mem_filter.mp hc).2⟩
  · exact ⟨h, good_of_word (List.mem_filter.mp h).2⟩
theorem ab_PcU {p : Program} {s : State} {m : MethodId} {args : Array Value} {meth : Method} {c : Code} {n0 : Nat} {w : ab_W} {H : Heap} {locs : List Loc} {As : List Value} (hX : ab_X G Z p s m args meth c Y n0) (ha : ab_at G w H) (hS : va_S (ab_A G) s.heap H locs) : ∀ U : State, U.heap = H → s.WarmedH U.vm → ab_Pc G Z As w (As.map (ab_cv G)).toArray U := by
  intro U hU hW
  refine ⟨rfl, by rw [hU]; exact ha, va_K.moved hW.alike hX.2.2.2.2.2.1, hX.2.2.2.2.2.2.2.2.2.2.2 s U hX.2.2.2.2.2.2.1 hW (fun q hq => ?_), hX.2.2.2.2.2.2.2.2.2.2.2⟩
  rw [hU]
  have h1 := hX.2.2.2.2.2.2.2.1
  exact hS.2.1 q (by omega) (by show ¬ G.2.1 ≤ q; omega)
/-- behind a call -/
theorem ab_back {p : Program} {l : Launch} {e : Env} {R : Room} {s : State} {m : MethodId} {args : Array Value} {below : List Frame} {meth : Method} {c : Code} {Q : State → Prop} {n0 t0 : Nat} {lv : ab_L} {st rest : List Value} {w w' : ab_W} {H : Heap} {ls : Array Slot} {locs : List Loc} {v : Option Value} {a : Array Value}
    (hn : n0 ≤ w.length) (ht : t0 ≤ ab_tot w) (hle : ab_le w w') (hl : lv_has ls Y.2.2.1 (ab_lp G lv)) (hS : va_S (ab_A G) s.heap H locs) (kk : ab_J G p l e R s m args below meth c Q Y n0 t0 (pc + 3) lv (v.toList ++ rest) w')
    (hr : va_Run p l e R s m args below meth c H locs (w.length - n0) (ab_tot w - t0) (w'.length - w.length) (ab_tot w' - ab_tot w) (F0 m pc ls (st.map (ab_cv G))) (rest.map (ab_cv G)) (ab_Qc G v w' a) (ab_A G)) : W p l e R s m args below meth c H locs (w.length - n0) (ab_tot w - t0) Q (F0 m pc ls (st.map (ab_cv G))) := by
  refine ab_callW hr fun v' st₀ t L h0 hL hq => ?_
  obtain ⟨e1, hat, hF⟩ := hq
  have e2 : v' = v.map (ab_cv G) := by injection e1
  subst e2
  have hle1 := hle.1
  have hle2 := hle.2
  rw [show w.length - n0 + (w'.length - w.length) = w'.length - n0 by omega, show ab_tot w - t0 + (ab_tot w' - ab_tot w) = ab_tot w' - t0 by omega]
  have k2 := kk ls t.heap (locs ++ L) hl hat ⟨Nat.le_trans hS.1 (by rw [← h0]; exact hF.1), fun q h1 h2 => by
      rw [hF.2 q (by rw [h0]; exact Nat.lt_of_lt_of_le h1 hS.1) h2, h0]; exact hS.2.1 q h1 h2, fun q hq => by
      rcases List.mem_append.mp hq with h | h
      · exact hS.2.2 q h
      · exact hL q h⟩
  have e3 : (v.toList ++ rest).map (ab_cv G) = (v.map (ab_cv G)).toList ++ rest.map (ab_cv G) := by
    rw [List.map_append]
    congr 1
    cases v <;> rfl
  rw [e3] at k2
  exact k2
theorem ab_fits {d n0 t0 N T : Nat} {R : Room} {w w' : ab_W} (hR : ab_Rm (d + 1) n0 t0 N T R) (hn : n0 ≤ w.length) (ht : t0 ≤ ab_tot w) (hle : ab_le w w') (hN : w'.length ≤ N) (hT : ab_tot w' ≤ T) : w.length - n0 + (w'.length - w.length) ≤ R.cells ∧ ab_tot w - t0 + (ab_tot w' - ab_tot w) ≤ R.slots := by
  obtain ⟨h1, h2, h3, h4⟩ := hR
  obtain ⟨h5, h6⟩ := hle
  omega
theorem ab_rmR {d n0 t0 N T maxL : Nat} {R : Room} {w w' : ab_W} (hR : ab_Rm (d + 1) n0 t0 N T R) (hL : maxL ≤ 45) : (ab_rm d w w').frames + 1 ≤ R.frames ∧ 8 + (maxL + 11) + (ab_rm d w w').locals ≤ R.locals := by
  obtain ⟨h1, h2, h3, h4⟩ := hR
  show d + 1 ≤ R.frames ∧ 8 + (maxL + 11) + 64 * d ≤ R.locals
  omega
theorem ab_stk (G : ab_G) (n : Nat) (st : List Value) : st.map (ab_cv G) = ((st.take n).reverse.map (ab_cv G)).reverse ++ (st.drop n).map (ab_cv G) := by
  rw [List.map_reverse, List.reverse_reverse, ← List.map_append, List.take_append_drop]
theorem sn_callS {i n idx : Nat} (hd : decode Y.1 pc = .ok (.invokestatic idx, 3)) (hl : Cond.methodLink Y.2.1 idx (M i).1 ∈ ab_GW) (hst : Cond.static (M i).1 ∈ ab_GW) (hii : Cond.initialized (M i).1.cls ∈ ab_GW) (hcd : Cond.code (M i).1 (M i).2.1 (M i).2.2.1 (M i).2.2.2 ∈ ab_GW)
    (hy : (M i).1.cls ≠ "java/lang/invoke/MethodHandle" ∧ (M i).1.cls ≠ "java/lang/invoke/VarHandle" ∧ (parseMethodDescriptor (M i).1.desc).map (fun d => d.parameters.length) = some n) (hml : (M i).2.2.1 ≤ 45) (hcs : ab_CS G Z M cal d) (h : ab_Sd G Z (d + 1) Y (pc + 3) k) : ab_Sd G Z (d + 1) Y pc (o_callS cal i n k) := by
  refine h.step fun lv st w r hr => ?_
  unfold o_callS at hr
  split at hr
  · rename_i hlen
    split at hr
    · rename_i v w' hc
      obtain ⟨hle, hM⟩ := hcs _ _ _ _ _ hc
      refine ⟨lv, _, w', hr, hle, fun p l e R s m args below meth c Q n0 t0 N T hX hR hn ht hN hT kk ls H locs hlv ha hS => ?_⟩
      exact ab_back (rest := st.drop n) hn ht hle hlv hS kk (va_runS (As := (st.take n).reverse.map (ab_cv G)) (rest := (st.drop n).map (ab_cv G)) ⟨hX.1, hX.2.1, hX.2.2.1, hX.2.2.2.1, hX.2.2.2.2.1⟩ (hM l) ⟨callB_of n hX.2.2.2.2.1 (ab_goodM hcd) rfl rfl rfl (hX.2.2.2.2.1 _ hii) (hX.2.2.2.2.1 _ hl) hy (ab_rmR hR hml), hX.2.2.2.2.1 _ hst⟩ ⟨ab_Pc_blind hX.2.2.2.2.2.2.2.2.2.2.2 _ _, ab_PcU hX ha hS⟩ rfl (by simp; omega) hlv.1 (ab_stk G n st) (lv_room (ab_cl_le hlen.2)) hd (ab_fits hR hn ht hle hN hT))
    · cases hr
  · cases hr
theorem sn_callSN {i n idx : Nat} {host : String} (hd : decode Y.1 pc = .ok (.invokestatic idx, 3)) (hl : ∀ U, Z U → va_Nw (.methodLinkNest Y.2.1 idx (M i).1 host) U) (hst : Cond.static (M i).1 ∈ ab_GW) (hii : Cond.initialized (M i).1.cls ∈ ab_GW) (hcd : Cond.code (M i).1 (M i).2.1 (M i).2.2.1 (M i).2.2.2 ∈ ab_GW)
    (hy : (M i).1.cls ≠ "java/lang/invoke/MethodHandle" ∧ (M i).1.cls ≠ "java/lang/invoke/VarHandle" ∧ (parseMethodDescriptor (M i).1.desc).map (fun d => d.parameters.length) = some n) (hml : (M i).2.2.1 ≤ 45) (hcs : ab_CS G Z M cal d) (h : ab_Sd G Z (d + 1) Y (pc + 3) k) : ab_Sd G Z (d + 1) Y pc (o_callS cal i n k) := by
  refine h.step fun lv st w r hr => ?_
  unfold o_callS at hr
  split at hr
  · rename_i hlen
    split at hr
    · rename_i v w' hc
      obtain ⟨hle, hM⟩ := hcs _ _ _ _ _ hc
      refine ⟨lv, _, w', hr, hle, fun p l e R s m args below meth c Q n0 t0 N T hX hR hn ht hN hT kk ls H locs hlv ha hS => ?_⟩
      exact ab_back (rest := st.drop n) hn ht hle hlv hS kk (va_runSN (As := (st.take n).reverse.map (ab_cv G)) (rest := (st.drop n).map (ab_cv G)) ⟨hX.1, hX.2.1, hX.2.2.1, hX.2.2.2.1, hX.2.2.2.2.1⟩ (hM l) ⟨va_cnB n hX.2.2.2.2.1 (ab_goodM hcd) rfl rfl rfl (hl s hX.2.2.2.2.2.2.1) (hX.2.2.2.2.1 _ hii) hy (ab_rmR hR hml), hX.2.2.2.2.1 _ hst, trivial⟩ ⟨ab_Pc_blind hX.2.2.2.2.2.2.2.2.2.2.2 _ _, ab_PcU hX ha hS⟩ rfl (by simp; omega) hlv.1 (ab_stk G n st) (lv_room (ab_cl_le hlen.2)) hd (ab_fits hR hn ht hle hN hT))
    · cases hr
  · cases hr
theorem ab_stkV {G : ab_G} {n b : Nat} {st rest : List Value} (h : st.drop n = .ref b :: rest) : st.map (ab_cv G) = ((st.take n).reverse.map (ab_cv G)).reverse ++ .ref (ab_ad G b) :: rest.map (ab_cv G) := by
  rw [ab_stk G n st, h]
  rfl
theorem ab_lenV {n b : Nat} {st rest : List Value} {G : ab_G} (h : st.drop n = .ref b :: rest) : ((st.take n).reverse.map (ab_cv G)).length = n := by
  have := congrArg List.length h
  simp at this
  simp
  omega
theorem sn_callV {i n idx ci : Nat} {q : vw_C} (hd : decode Y.1 pc = .ok (.invokevirtual idx, 3)) (hc0 : vwCl[ci]? = some q) (hl : Cond.methodLink Y.2.1 idx (M i).1 ∈ ab_GW) (hin : Cond.instanceMethod (M i).1 ∈ ab_GW) (hse : Cond.selects q.1 (M i).1 (M i).1 ∈ ab_GW) (hii : Cond.initialized (M i).1.cls ∈ ab_GW) (hcd : Cond.code (M i).1 (M i).2.1 (M i).2.2.1 (M i).2.2.2 ∈ ab_GW)
    (hy : (M i).1.cls ≠ "java/lang/invoke/MethodHandle" ∧ (M i).1.cls ≠ "java/lang/invoke/VarHandle" ∧ (parseMethodDescriptor (M i).1.desc).map (fun d => d.parameters.length) = some n) (hml : (M i).2.2.1 ≤ 45) (hcs : ab_CS G Z M cal d) (h : ab_Sd G Z (d + 1) Y (pc + 3) k) : ab_Sd G Z (d + 1) Y pc (o_callV cal i n ci k) := by
  refine h.step fun lv st w r hr => ?_
  unfold o_callV at hr
  split at hr
  · rename_i b rest hdr
    split at hr
    · rename_i c' fs hb
      split at hr
      · rename_i hcl
        obtain ⟨rfl, hcl⟩ := hcl
        split at hr
        · rename_i v w' hc
          obtain ⟨hle, hM⟩ := hcs _ _ _ _ _ hc
          refine ⟨lv, _, w', hr, hle, fun p l e R s m args below meth c Q n0 t0 N T hX hR hn ht hN hT kk ls H locs hlv ha hS => ?_⟩
          exact ab_back hn ht hle hlv hS kk (va_runV (b := ab_ad G b) (As := (st.take n).reverse.map (ab_cv G)) (rest := rest.map (ab_cv G)) ⟨hX.1, hX.2.1, hX.2.2.1, hX.2.2.2.1, hX.2.2.2.2.1⟩ (hM l) ⟨callB_of n hX.2.2.2.2.1 (ab_goodM hcd) rfl rfl rfl (hX.2.2.2.2.1 _ hii) (hX.2.2.2.2.1 _ hl) hy (ab_rmR hR hml), hX.2.2.2.2.1 _ hin, hX.2.2.2.2.1 _ hse⟩ ⟨ab_Pc_blind hX.2.2.2.2.2.2.2.2.2.2.2 _ _, by rw [ab_ad_in ha hb]; exact va_recv hX.2.2.2.2.2.1 ha.1 hc0 (ab_ws_at hb), ab_PcU (As := .ref b :: (st.take n).reverse) hX ha hS⟩ rfl (ab_lenV hdr) hlv.1 (ab_stkV hdr) (lv_room (ab_cl_le hcl)) hd (ab_fits hR hn ht hle hN hT))
        · cases hr
      · cases hr
    · cases hr
  · cases hr
theorem sn_callI {i n idx : Nat} (hd : decode Y.1 pc = .ok (.invokespecial idx, 3)) (hl : Cond.methodLink Y.2.1 idx (M i).1 ∈ ab_GW) (hin : Cond.instanceMethod (M i).1 ∈ ab_GW) (hii : Cond.initialized (M i).1.cls ∈ ab_GW) (hrn : (M i).2.2.2 = none) (hnm : (M i).1.name = "<init>") (hcd : Cond.code (M i).1 (M i).2.1 (M i).2.2.1 (M i).2.2.2 ∈ ab_GW)
    (hy : (M i).1.cls ≠ "java/lang/invoke/MethodHandle" ∧ (M i).1.cls ≠ "java/lang/invoke/VarHandle" ∧ (parseMethodDescriptor (M i).1.desc).map (fun d => d.parameters.length) = some n) (hml : (M i).2.2.1 ≤ 45) (hcs : ab_CS G Z M cal d) (h : ab_Sd G Z (d + 1) Y (pc + 3) k) : ab_Sd G Z (d + 1) Y pc (o_callI cal i n k) := by
  refine h.step fun lv st w r hr => ?_
  unfold o_callI at hr
  split at hr
  · rename_i b rest hdr
    split at hr
    · rename_i hcl
      split at hr
      · rename_i v w' hc
        obtain ⟨hle, hM⟩ := hcs _ _ _ _ _ hc
        have hmw : ab_mw (M i) = Cond.code (M i).1 (M i).2.1 (M i).2.2.1 none :: ab_GW := by
          show Cond.code _ _ _ (M i).2.2.2 :: ab_GW = _
          rw [hrn]
        refine ⟨lv, _, w', hr, hle, fun p l e R s m args below meth c Q n0 t0 N T hX hR hn ht hN hT kk ls H locs hlv ha hS => ?_⟩
        exact ab_back hn ht hle hlv hS kk (va_runI (b := ab_ad G b) (As := (st.take n).reverse.map (ab_cv G)) (rest := rest.map (ab_cv G)) ⟨hX.1, hX.2.1, hX.2.2.1, hX.2.2.2.1, hX.2.2.2.2.1⟩ (hM l) ⟨callB_of n hX.2.2.2.2.1 (ab_goodM hcd) hmw rfl rfl (hX.2.2.2.2.1 _ hii) (hX.2.2.2.2.1 _ hl) hy (ab_rmR hR hml), hnm, hX.2.2.2.2.1 _ hin⟩ ⟨ab_Pc_blind hX.2.2.2.2.2.2.2.2.2.2.2 _ _, ab_PcU (As := .ref b :: (st.take n).reverse) hX ha hS⟩ rfl (ab_lenV hdr) hlv.1 (ab_stkV hdr) (lv_room (ab_cl_le hcl)) hd (ab_fits hR hn ht hle hN hT))
      · cases hr
    · cases hr
  · cases hr
theorem sn_callIN {i n idx : Nat} {host : String} (hd : decode Y.1 pc = .ok (.invokespecial idx, 3)) (hl : ∀ U, Z U → va_Nw (.methodLinkNest Y.2.1 idx (M i).1 host) U) (hin : Cond.instanceMethod (M i).1 ∈ ab_GW) (hii : Cond.initialized (M i).1.cls ∈ ab_GW) (hrn : (M i).2.2.2 = none) (hnm : (M i).1.name = "<init>") (hcd : Cond.code (M i).1 (M i).2.1 (M i).2.2.1 (M i).2.2.2 ∈ ab_GW)
    (hy : (M i).1.cls ≠ "java/lang/invoke/MethodHandle" ∧ (M i).1.cls ≠ "java/lang/invoke/VarHandle" ∧ (parseMethodDescriptor (M i).1.desc).map (fun d => d.parameters.length) = some n) (hml : (M i).2.2.1 ≤ 45) (hcs : ab_CS G Z M cal d) (h : ab_Sd G Z (d + 1) Y (pc + 3) k) : ab_Sd G Z (d + 1) Y pc (o_callI cal i n k) := by
  refine h.step fun lv st w r hr => ?_
  unfold o_callI at hr
  split at hr
  · rename_i b rest hdr
    split at hr
    · rename_i hcl
      split at hr
      · rename_i v w' hc
        obtain ⟨hle, hM⟩ := hcs _ _ _ _ _ hc
        have hmw : ab_mw (M i) = Cond.code (M i).1 (M i).2.1 (M i).2.2.1 none :: ab_GW := by
          show Cond.code _ _ _ (M i).2.2.2 :: ab_GW = _
          rw [hrn]
        refine ⟨lv, _, w', hr, hle, fun p l e R s m args below meth c Q n0 t0 N T hX hR hn ht hN hT kk ls H locs hlv ha hS => ?_⟩
        exact ab_back hn ht hle hlv hS kk (va_runIN (b := ab_ad G b) (As := (st.take n).reverse.map (ab_cv G)) (rest := rest.map (ab_cv G)) ⟨hX.1, hX.2.1, hX.2.2.1, hX.2.2.2.1, hX.2.2.2.2.1⟩ (hM l) ⟨va_cnB n hX.2.2.2.2.1 (ab_goodM hcd) hmw rfl rfl (hl s hX.2.2.2.2.2.2.1) (hX.2.2.2.2.1 _ hii) hy (ab_rmR hR hml), hnm, hX.2.2.2.2.1 _ hin⟩ ⟨ab_Pc_blind hX.2.2.2.2.2.2.2.2.2.2.2 _ _, ab_PcU (As := .ref b :: (st.take n).reverse) hX ha hS⟩ rfl (ab_lenV hdr) hlv.1 (ab_stkV hdr) (lv_room (ab_cl_le hcl)) hd (ab_fits hR hn ht hle hN hT))
      · cases hr
    · cases hr
  · cases hr
end ABK
end
section
/-! ===== running ===== -/
def ab_run (B : List ab_K) : Nat → Nat → ab_L → List Value → ab_W → Option (Option Value × ab_W)
  | 0, _, _, _, _ => none
  | n + 1, b, lv, st, w => match B[b]? with
    | none => none
    | some k => match k lv st w with
      | none => none
      | some (.inr r) => some r
      | some (.inl (b', lv', st', w')) => ab_run B n b' lv' st' w'
def ab_ent (As : List Value) (nL : Nat) : ab_L := As.map some ++ List.replicate (nL - As.length) none
section ABR
variable {G : ab_G} {Z : State → Prop} {d : Nat} {Y : ab_Y} {B : List ab_K}
/-- every block is what the bytes do from its place on -/
def ab_BS (G : ab_G) (Z : State → Prop) (d : Nat) (Y : ab_Y) (pcs : List Nat) (B : List ab_K) : Prop := match pcs, B with
  | [], [] => True
  | pc :: pcs, k :: B => ab_Sd G Z d Y pc k ∧ ab_BS G Z d Y pcs B
  | _, _ => False
theorem ab_BS.get {G : ab_G} {Z : State → Prop} {d : Nat} {Y : ab_Y} : ∀ {pcs : List Nat} {B : List ab_K}, ab_BS G Z d Y pcs B → ∀ {b : Nat} {k : ab_K}, B[b]? = some k → ∃ pc, pcs[b]? = some pc ∧ ab_Sd G Z d Y pc k
  | [], [], _, b, k, hb => by simp at hb
  | [], _ :: _, h, _, _, _ => h.elim
  | _ :: _, [], h, _, _, _ => h.elim
  | pc :: pcs, k0 :: B, h, b, k, hb => by
    cases b with
    | zero =>
      rw [List.getElem?_cons_zero] at hb
      cases hb
      exact ⟨pc, rfl, h.1⟩
    | succ b =>
      rw [List.getElem?_cons_succ] at hb
      exact ab_BS.get h.2 hb
theorem ab_run_le (h : ab_BS G Z d Y Y.2.2.2.2.2 B) : ∀ (n b : Nat) (lv : ab_L) (st : List Value) (w : ab_W) (r : Option Value × ab_W), ab_run B n b lv st w = some r → ab_le w r.2
  | 0, _, _, _, _, _, hr => by cases hr
  | n + 1, b, lv, st, w, r, hr => by
    unfold ab_run at hr
    split at hr
    · cases hr
    · rename_i k hk
      obtain ⟨pc, -, hs⟩ := h.get hk
      split at hr
      · cases hr
      · rename_i r' hkr
        cases hr
        exact hs.1 _ _ _ _ hkr
      · rename_i b' lv' st' w' hkr
        exact ab_le.trans (hs.1 _ _ _ _ hkr) (ab_run_le h n b' lv' st' w' r hr)
theorem ab_run_J (h : ab_BS G Z d Y Y.2.2.2.2.2 B) {p : Program} {l : Launch} {e : Env} {R : Room} {s : State} {m : MethodId} {args : Array Value} {below : List Frame} {meth : Method} {c : Code} {Q : State → Prop} {n0 t0 : Nat} {v : Option Value} {wf : ab_W}
    (hX : ab_X G Z p s m args meth c Y n0) (hR : ab_Rm d n0 t0 wf.length (ab_tot wf) R) (hQ : ab_Rt G p l e R s m args below meth c Q Y n0 t0 v wf) : ∀ (n b : Nat) (lv : ab_L) (st : List Value) (w : ab_W), ab_run B n b lv st w = some (v, wf) → n0 ≤ w.length → t0 ≤ ab_tot w → ∃ pc, Y.2.2.2.2.2[b]? = some pc ∧ ab_J G p l e R s m args below meth c Q Y n0 t0 pc lv st w
  | 0, _, _, _, _, hr, _, _ => by cases hr
  | n + 1, b, lv, st, w, hr, hn, ht => by
    unfold ab_run at hr
    split at hr
    · cases hr
    · rename_i k hk
      obtain ⟨pc, hpc, hs⟩ := h.get hk
      refine ⟨pc, hpc, ?_⟩
      split at hr
      · cases hr
      · rename_i r' hkr
        cases hr
        exact hs.2 p l e R s m args below meth c Q n0 t0 wf.length (ab_tot wf) hX hR lv st w _ hkr hn ht (Nat.le_refl _) (Nat.le_refl _) hQ
      · rename_i b' lv' st' w' hkr
        have hle := hs.1 _ _ _ _ hkr
        have hle2 := ab_run_le h n b' lv' st' w' _ hr
        have ih := ab_run_J h hX hR hQ n b' lv' st' w' hr (Nat.le_trans hn hle.1) (Nat.le_trans ht hle.2)
        refine hs.2 p l e R s m args below meth c Q n0 t0 wf.length (ab_tot wf) hX hR lv st w _ hkr hn ht hle2.1 hle2.2 ?_
        intro pc' hpc'
        obtain ⟨pc2, h1, h2⟩ := ih
        cases h1.symm.trans hpc'
        exact h2
/-- the locals at a method's entry -/
theorem ab_lp_ent {G : ab_G} {As : List Value} {nL : Nat} (h1 : ∀ v ∈ As, v.category = 1) : ∀ q ∈ ab_lp G (ab_ent As nL), q ∈ lv_args 0 (As.map (ab_cv G)) := by
  intro q hq
  obtain ⟨v, h2, h3⟩ := ab_lp_mem.mp hq
  unfold ab_ent at h2
  have hlt : q.1 < As.length := by
    rcases Nat.lt_or_ge q.1 As.length with h | h
    · exact h
    · rw [List.getElem?_append_right (by simpa using h), List.getElem?_replicate] at h2
      split at h2 <;> cases h2
  rw [List.getElem?_append_left (by simpa using hlt), List.getElem?_map] at h2
  have key : ∀ (l : List Value) (k j : Nat) (u : Value), (∀ v ∈ l, v.category = 1) → l[j]? = some u → (k + j, ab_cv G u) ∈ lv_args k (l.map (ab_cv G)) := by
    intro l
    induction l with
    | nil => intro k j u _ h; simp at h
    | cons a r ih =>
      intro k j u hc h
      have hca : (ab_cv G a).category = 1 := (ab_cv_cat G a).trans (hc a List.mem_cons_self)
      rw [List.map_cons]
      simp only [lv_args, hca]
      cases j with
      | zero =>
        rw [List.getElem?_cons_zero] at h
        cases h
        exact List.mem_cons_self
      | succ j =>
        rw [List.getElem?_cons_succ] at h
        have := ih (k + 1) j u (fun v hv => hc v (List.mem_cons_of_mem _ hv)) h
        rw [show k + 1 + j = k + (j + 1) by omega] at this
        exact List.mem_cons_of_mem _ (by simpa using this)
  cases hv : As[q.1]? with
  | none => rw [hv] at h2; cases h2
  | some u =>
    rw [hv] at h2
    have e1 : u = v := Option.some.inj (Option.some.inj h2)
    subst e1
    have := key As 0 q.1 u h1 hv
    rw [Nat.zero_add, ← h3] at this
    exact this
end ABR
end
