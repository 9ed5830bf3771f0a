def ck_become12 : Bool := match EX FU 7 30 [.ref 12, .ref 1] (mkW s1) with
  | some (none, w) => ab_weq w (mkW s1)
  | _ => false
set_option maxRecDepth 1000000 in
theorem ck_become12_ok : ck_become12 = true := by decide +kernel
theorem p1_become12 : EX FU 7 30 [.ref 12, .ref 1] (mkW s1) = some (none, mkW s1) := by
  have h := ck_become12_ok
  unfold ck_become12 at h
  revert h
  cases EX FU 7 30 [.ref 12, .ref 1] (mkW s1) with
  | none => intro h; cases h
  | some q =>
    match q with
    | (some _, _) => intro h; cases h
    | (none, w) => intro h; rw [ab_weq_eq h]
def ck_become24 : Bool := match EX FU 6 30 [.ref 24, .ref 1] (mkW s1) with
  | some (none, w) => ab_weq w (mkW s1)
  | _ => false
set_option maxRecDepth 1000000 in
theorem ck_become24_ok : ck_become24 = true := by decide +kernel
theorem p1_become24 : EX FU 6 30 [.ref 24, .ref 1] (mkW s1) = some (none, mkW s1) := by
  have h := ck_become24_ok
  unfold ck_become24 at h
  revert h
  cases EX FU 6 30 [.ref 24, .ref 1] (mkW s1) with
  | none => intro h; cases h
  | some q =>
    match q with
    | (some _, _) => intro h; cases h
    | (none, w) => intro h; rw [ab_weq_eq h]
set_option maxRecDepth 1000000 in
set_option maxHeartbeats 40000000 in
theorem p1_keep : P1 116 219 [] := by
  apply p1_intro (v := 0)
  case h1 =>
    apply ex_X8_keep
    refine rn_step rfl ?_
    refine rb_aload rfl ?_
    refine rb_getf (v := .ref 12) rfl ?_
    refine rb_aload rfl ?_
    refine rb_getf (v := .ref 1) rfl ?_
    apply rb_callV1v
    case hb => exact rfl
    case hcl => exact rfl
    case hc =>
      exact p1_become12
    refine rb_aload rfl ?_
    refine rb_push ?_
    refine rb_putZ (by decide) (pf_0_9 _ _) ?_
    refine rb_aload rfl ?_
    refine rb_getf (v := .ref 1) rfl ?_
    refine rb_getf (v := .int 0) rfl ?_
    refine rb_ret rfl rfl
  case h2 =>
    apply ex_X9_keep
    refine rn_step rfl ?_
    refine rb_aload rfl ?_
    refine rb_getf (v := .ref 69) rfl ?_
    refine rb_aload rfl ?_
    refine rb_getf (v := .ref 70) rfl ?_
    apply rb_callS2v
    case hcl => exact rfl
    case hc =>
      exact c_copyAll (d := 6) _ (fun _ => rfl) (fun _ => rfl) (fun s xs => wa_70 s xs) (by decide) (okL_len (okL.sI s1_ok _ _ _) (c := 69) (n := 1461) (by decide) rfl (by decide)) (okL_len (okL.sI s1_ok _ _ _) (c := 70) (n := 1461) (by decide) rfl (by decide))
    refine rb_aload rfl ?_
    refine rb_push ?_
    refine rb_putZ (by decide) (pf_68_3 _ _) ?_
    refine rb_aload rfl ?_
    refine rb_getf (v := .ref 69) rfl ?_
    refine rb_push ?_
    refine rb_iald rfl (by decide) (show _ = some (0) from rfl) ?_
    refine rb_ret rfl rfl
  case h3 => exact (okL.sI (okL.sA (okL.sI s1_ok _ _ _) _ (by rw [okL_len (okL.sI s1_ok _ _ _) (c := 69) (n := 1461) (by decide) rfl (by decide), okL_len (okL.sI s1_ok _ _ _) (c := 70) (n := 1461) (by decide) rfl (by decide)])) _ _ _)
  case h4 => exact rfl
set_option maxRecDepth 1000000 in
set_option maxHeartbeats 40000000 in
theorem p1_days1 (n : Nat) (h1 : 1 ≤ n) (hn : n ≤ 100) : P1 86 161 [.int (nI n)] := by
  have hla : (1 : Int) ≤ (nI n).toInt := by rw [nI_toInt (by omega)]; omega
  have hha : (nI n).toInt ≤ 100 := by rw [nI_toInt (by omega)]; omega
  obtain ⟨zx, dx, hx⟩ := c_passDays0 (d := 4) s1 isT1 ⟨rfl, rfl, rfl⟩ hn
  obtain ⟨zm, dm, hm⟩ := c_goesOn0 (d := 3) (sI (sI s1 1 14 zx) 1 13 dx) (z := 1) (dd := 0) rfl rfl rfl rfl hn
  apply p1_intro (v := 0)
  case h1 =>
    apply ex_X8_days
    refine rn_step rfl ?_
    refine rb_iload rfl ?_
    refine rb_push ?_
    refine rb_push ?_
    apply rb_callS3
    case hcl => exact rfl
    case hc =>
      apply ex_X8_within
      refine rn_step rfl ?_
      refine rb_iload rfl ?_
      refine rb_iload rfl ?_
      refine rb_clt (fun h => absurd h (ia_nlt hla (by decide))) (fun _ => ?_)
      refine rb_iload rfl ?_
      refine rb_iload rfl ?_
      refine rb_cgt (fun h => absurd h (ia_ngt hha (by decide))) (fun _ => ?_)
      refine rb_push ?_
      refine rb_goto ?_
      refine rn_step rfl ?_
      refine rb_ret rfl rfl
    refine rb_ine (fun _ => ?_) (fun h => absurd (by decide) h)
    refine rn_step rfl ?_
    refine rb_aload rfl ?_
    refine rb_getf (v := .ref 1) rfl ?_
    apply rb_callV0
    case hb => exact rfl
    case hcl => exact rfl
    case hc =>
      apply ex_X4_laidStones
      refine rn_step rfl ?_
      refine rb_aload rfl ?_
      apply rb_callV0
      case hb => exact rfl
      case hcl => exact rfl
      case hc =>
        apply ex_X4_placesHeld
        refine rn_step rfl ?_
        refine rb_push ?_
        refine rb_istore (lv' := [some (.ref 1), some (.int 0), none]) rfl ?_
        refine rb_push ?_
        refine rb_istore (lv' := [some (.ref 1), some (.int 0), some (.int 0)]) rfl ?_
        refine rb_goto ?_
        refine rn_step rfl ?_
        refine rb_iload rfl ?_
        refine rb_push ?_
        refine rb_cge (fun h => absurd h (by decide)) (fun _ => ?_)
        refine rb_aload rfl ?_
        refine rb_getf (v := .ref 7) rfl ?_
        refine rb_iload rfl ?_
        refine rb_iald rfl (by decide) (show _ = some ((-1)) from rfl) ?_
        refine rb_push ?_
        refine rb_ceq (fun _ => ?_) (fun h => absurd (by decide) h)
        refine rn_step rfl ?_
        refine rb_iinc (lv' := [some (.ref 1), some (.int 0), some (.int 1)]) rfl rfl ?_
        refine rb_goto ?_
        refine rn_step rfl ?_
        refine rb_iload rfl ?_
        refine rb_push ?_
        refine rb_cge (fun h => absurd h (by decide)) (fun _ => ?_)
        refine rb_aload rfl ?_
        refine rb_getf (v := .ref 7) rfl ?_
        refine rb_iload rfl ?_
        refine rb_iald rfl (by decide) (show _ = some ((-1)) from rfl) ?_
        refine rb_push ?_
        refine rb_ceq (fun _ => ?_) (fun h => absurd (by decide) h)
        refine rn_step rfl ?_
        refine rb_iinc (lv' := [some (.ref 1), some (.int 0), some (.int 2)]) rfl rfl ?_
        refine rb_goto ?_
        refine rn_step rfl ?_
        refine rb_iload rfl ?_
        refine rb_push ?_
        refine rb_cge (fun h => absurd h (by decide)) (fun _ => ?_)
        refine rb_aload rfl ?_
        refine rb_getf (v := .ref 7) rfl ?_
        refine rb_iload rfl ?_
        refine rb_iald rfl (by decide) (show _ = some ((-1)) from rfl) ?_
        refine rb_push ?_
        refine rb_ceq (fun _ => ?_) (fun h => absurd (by decide) h)
        refine rn_step rfl ?_
        refine rb_iinc (lv' := [some (.ref 1), some (.int 0), some (.int 3)]) rfl rfl ?_
        refine rb_goto ?_
        refine rn_step rfl ?_
        refine rb_iload rfl ?_
        refine rb_push ?_
        refine rb_cge (fun h => absurd h (by decide)) (fun _ => ?_)
        refine rb_aload rfl ?_
        refine rb_getf (v := .ref 7) rfl ?_
        refine rb_iload rfl ?_
        refine rb_iald rfl (by decide) (show _ = some ((-1)) from rfl) ?_
        refine rb_push ?_
        refine rb_ceq (fun _ => ?_) (fun h => absurd (by decide) h)
        refine rn_step rfl ?_
        refine rb_iinc (lv' := [some (.ref 1), some (.int 0), some (.int 4)]) rfl rfl ?_
        refine rb_goto ?_
        refine rn_step rfl ?_
        refine rb_iload rfl ?_
        refine rb_push ?_
        refine rb_cge (fun h => absurd h (by decide)) (fun _ => ?_)
        refine rb_aload rfl ?_
        refine rb_getf (v := .ref 7) rfl ?_
        refine rb_iload rfl ?_
        refine rb_iald rfl (by decide) (show _ = some ((-1)) from rfl) ?_
        refine rb_push ?_
        refine rb_ceq (fun _ => ?_) (fun h => absurd (by decide) h)
        refine rn_step rfl ?_
        refine rb_iinc (lv' := [some (.ref 1), some (.int 0), some (.int 5)]) rfl rfl ?_
        refine rb_goto ?_
        refine rn_step rfl ?_
        refine rb_iload rfl ?_
        refine rb_push ?_
        refine rb_cge (fun h => absurd h (by decide)) (fun _ => ?_)
        refine rb_aload rfl ?_
        refine rb_getf (v := .ref 7) rfl ?_
        refine rb_iload rfl ?_
        refine rb_iald rfl (by decide) (show _ = some ((-1)) from rfl) ?_
        refine rb_push ?_
        refine rb_ceq (fun _ => ?_) (fun h => absurd (by decide) h)
        refine rn_step rfl ?_
        refine rb_iinc (lv' := [some (.ref 1), some (.int 0), some (.int 6)]) rfl rfl ?_
        refine rb_goto ?_
        refine rn_step rfl ?_
        refine rb_iload rfl ?_
        refine rb_push ?_
        refine rb_cge (fun h => absurd h (by decide)) (fun _ => ?_)
        refine rb_aload rfl ?_
        refine rb_getf (v := .ref 7) rfl ?_
        refine rb_iload rfl ?_
        refine rb_iald rfl (by decide) (show _ = some ((-1)) from rfl) ?_
        refine rb_push ?_
        refine rb_ceq (fun _ => ?_) (fun h => absurd (by decide) h)
        refine rn_step rfl ?_
        refine rb_iinc (lv' := [some (.ref 1), some (.int 0), some (.int 7)]) rfl rfl ?_
        refine rb_goto ?_
        refine rn_step rfl ?_
        refine rb_iload rfl ?_
        refine rb_push ?_
        refine rb_cge (fun h => absurd h (by decide)) (fun _ => ?_)
        refine rb_aload rfl ?_
        refine rb_getf (v := .ref 7) rfl ?_
        refine rb_iload rfl ?_
        refine rb_iald rfl (by decide) (show _ = some ((-1)) from rfl) ?_
        refine rb_push ?_
        refine rb_ceq (fun _ => ?_) (fun h => absurd (by decide) h)
        refine rn_step rfl ?_
        refine rb_iinc (lv' := [some (.ref 1), some (.int 0), some (.int 8)]) rfl rfl ?_
        refine rb_goto ?_
        refine rn_step rfl ?_
        refine rb_iload rfl ?_
        refine rb_push ?_
        refine rb_cge (fun h => absurd h (by decide)) (fun _ => ?_)
        refine rb_aload rfl ?_
        refine rb_getf (v := .ref 7) rfl ?_
        refine rb_iload rfl ?_
        refine rb_iald rfl (by decide) (show _ = some ((-1)) from rfl) ?_
        refine rb_push ?_
        refine rb_ceq (fun _ => ?_) (fun h => absurd (by decide) h)
        refine rn_step rfl ?_
        refine rb_iinc (lv' := [some (.ref 1), some (.int 0), some (.int 9)]) rfl rfl ?_
        refine rb_goto ?_
        refine rn_step rfl ?_
        refine rb_iload rfl ?_
        refine rb_push ?_
        refine rb_cge (fun h => absurd h (by decide)) (fun _ => ?_)
        refine rb_aload rfl ?_
        refine rb_getf (v := .ref 7) rfl ?_
        refine rb_iload rfl ?_
        refine rb_iald rfl (by decide) (show _ = some ((-1)) from rfl) ?_
        refine rb_push ?_
        refine rb_ceq (fun _ => ?_) (fun h => absurd (by decide) h)
        refine rn_step rfl ?_
        refine rb_iinc (lv' := [some (.ref 1), some (.int 0), some (.int 10)]) rfl rfl ?_
        refine rb_goto ?_
        refine rn_step rfl ?_
        refine rb_iload rfl ?_
        refine rb_push ?_
        refine rb_cge (fun h => absurd h (by decide)) (fun _ => ?_)
        refine rb_aload rfl ?_
        refine rb_getf (v := .ref 7) rfl ?_
        refine rb_iload rfl ?_
        refine rb_iald rfl (by decide) (show _ = some ((-1)) from rfl) ?_
        refine rb_push ?_
        refine rb_ceq (fun _ => ?_) (fun h => absurd (by decide) h)
        refine rn_step rfl ?_
        refine rb_iinc (lv' := [some (.ref 1), some (.int 0), some (.int 11)]) rfl rfl ?_
        refine rb_goto ?_
        refine rn_step rfl ?_
        refine rb_iload rfl ?_
        refine rb_push ?_
        refine rb_cge (fun h => absurd h (by decide)) (fun _ => ?_)
        refine rb_aload rfl ?_
        refine rb_getf (v := .ref 7) rfl ?_
        refine rb_iload rfl ?_
        refine rb_iald rfl (by decide) (show _ = some ((-1)) from rfl) ?_
        refine rb_push ?_
        refine rb_ceq (fun _ => ?_) (fun h => absurd (by decide) h)
        refine rn_step rfl ?_
        refine rb_iinc (lv' := [some (.ref 1), some (.int 0), some (.int 12)]) rfl rfl ?_
        refine rb_goto ?_
        refine rn_step rfl ?_
        refine rb_iload rfl ?_
        refine rb_push ?_
        refine rb_cge (fun _ => ?_) (fun h => absurd (by decide) h)
        refine rn_step rfl ?_
        refine rb_iload rfl ?_
        refine rb_ret rfl rfl
      apply rb_callS1
      case hcl => exact rfl
      case hc =>
        apply ex_J6_bitCount_0f7a4
        refine rn_step rfl ?_
        refine rb_iload rfl ?_
        refine rb_iload rfl ?_
        refine rb_push ?_
        refine rb_binL (z := 0) (by decide) ?_
        refine rb_push ?_
        refine rb_binL (z := 0) (by decide) ?_
        refine rb_binL (z := 0) (by decide) ?_
        refine rb_istore (lv' := [some (.int 0)]) rfl ?_
        refine rb_iload rfl ?_
        refine rb_push ?_
        refine rb_binL (z := 0) (by decide) ?_
        refine rb_iload rfl ?_
        refine rb_push ?_
        refine rb_binL (z := 0) (by decide) ?_
        refine rb_push ?_
        refine rb_binL (z := 0) (by decide) ?_
        refine rb_binL (z := 0) (by decide) ?_
        refine rb_istore (lv' := [some (.int 0)]) rfl ?_
        refine rb_iload rfl ?_
        refine rb_iload rfl ?_
        refine rb_push ?_
        refine rb_binL (z := 0) (by decide) ?_
        refine rb_binL (z := 0) (by decide) ?_
        refine rb_push ?_
        refine rb_binL (z := 0) (by decide) ?_
        refine rb_istore (lv' := [some (.int 0)]) rfl ?_
        refine rb_iload rfl ?_
        refine rb_iload rfl ?_
        refine rb_push ?_
        refine rb_binL (z := 0) (by decide) ?_
        refine rb_binL (z := 0) (by decide) ?_
        refine rb_istore (lv' := [some (.int 0)]) rfl ?_
        refine rb_iload rfl ?_
        refine rb_iload rfl ?_
        refine rb_push ?_
        refine rb_binL (z := 0) (by decide) ?_
        refine rb_binL (z := 0) (by decide) ?_
        refine rb_istore (lv' := [some (.int 0)]) rfl ?_
        refine rb_iload rfl ?_
        refine rb_push ?_
        refine rb_binL (z := 0) (by decide) ?_
        refine rb_ret rfl rfl
      refine rb_ret rfl rfl
    refine rb_istore (lv' := [some (.ref 0), some (.int (nI n)), some (.int 0)]) rfl ?_
    refine rb_aload rfl ?_
    refine rb_getf (v := .ref 1) rfl ?_
    refine rb_iload rfl ?_
    refine rb_push ?_
    refine rb_aload rfl ?_
    refine rb_getf (v := .ref 1) rfl ?_
    refine rb_getf (v := .int 0) rfl ?_
    refine rb_binL (z := 9999) (by decide) ?_
    refine rb_m2L (z := nI n) rfl (if_neg (ia_ngt hha (by decide))) ?_
    apply rb_callV1v
    case hb => exact rfl
    case hcl => exact rfl
    case hc =>
      exact hx
    refine rb_aload rfl ?_
    refine rb_getf (v := .ref 1) rfl ?_
    apply rb_callV0
    case hb => exact rfl
    case hcl => exact rfl
    case hc =>
      apply ex_X4_laidStones
      refine rn_step rfl ?_
      refine rb_aload rfl ?_
      apply rb_callV0
      case hb => exact rfl
      case hcl => exact rfl
      case hc =>
        apply ex_X4_placesHeld
        refine rn_step rfl ?_
        refine rb_push ?_
        refine rb_istore (lv' := [some (.ref 1), some (.int 0), none]) rfl ?_
        refine rb_push ?_
        refine rb_istore (lv' := [some (.ref 1), some (.int 0), some (.int 0)]) rfl ?_
        refine rb_goto ?_
        refine rn_step rfl ?_
        refine rb_iload rfl ?_
        refine rb_push ?_
        refine rb_cge (fun h => absurd h (by decide)) (fun _ => ?_)
        refine rb_aload rfl ?_
        refine rb_getf (v := .ref 7) rfl ?_
        refine rb_iload rfl ?_
        refine rb_iald rfl (by decide) (show _ = some ((-1)) from rfl) ?_
        refine rb_push ?_
        refine rb_ceq (fun _ => ?_) (fun h => absurd (by decide) h)
        refine rn_step rfl ?_
        refine rb_iinc (lv' := [some (.ref 1), some (.int 0), some (.int 1)]) rfl rfl ?_
        refine rb_goto ?_
        refine rn_step rfl ?_
        refine rb_iload rfl ?_
        refine rb_push ?_
        refine rb_cge (fun h => absurd h (by decide)) (fun _ => ?_)
        refine rb_aload rfl ?_
        refine rb_getf (v := .ref 7) rfl ?_
        refine rb_iload rfl ?_
        refine rb_iald rfl (by decide) (show _ = some ((-1)) from rfl) ?_
        refine rb_push ?_
        refine rb_ceq (fun _ => ?_) (fun h => absurd (by decide) h)
        refine rn_step rfl ?_
        refine rb_iinc (lv' := [some (.ref 1), some (.int 0), some (.int 2)]) rfl rfl ?_
        refine rb_goto ?_
        refine rn_step rfl ?_
        refine rb_iload rfl ?_
        refine rb_push ?_
        refine rb_cge (fun h => absurd h (by decide)) (fun _ => ?_)
        refine rb_aload rfl ?_
        refine rb_getf (v := .ref 7) rfl ?_
        refine rb_iload rfl ?_
        refine rb_iald rfl (by decide) (show _ = some ((-1)) from rfl) ?_
        refine rb_push ?_
        refine rb_ceq (fun _ => ?_) (fun h => absurd (by decide) h)
        refine rn_step rfl ?_
        refine rb_iinc (lv' := [some (.ref 1), some (.int 0), some (.int 3)]) rfl rfl ?_
        refine rb_goto ?_
        refine rn_step rfl ?_
        refine rb_iload rfl ?_
        refine rb_push ?_
        refine rb_cge (fun h => absurd h (by decide)) (fun _ => ?_)
        refine rb_aload rfl ?_
        refine rb_getf (v := .ref 7) rfl ?_
        refine rb_iload rfl ?_
        refine rb_iald rfl (by decide) (show _ = some ((-1)) from rfl) ?_
        refine rb_push ?_
        refine rb_ceq (fun _ => ?_) (fun h => absurd (by decide) h)
        refine rn_step rfl ?_
        refine rb_iinc (lv' := [some (.ref 1), some (.int 0), some (.int 4)]) rfl rfl ?_
        refine rb_goto ?_
        refine rn_step rfl ?_
        refine rb_iload rfl ?_
        refine rb_push ?_
        refine rb_cge (fun h => absurd h (by decide)) (fun _ => ?_)
        refine rb_aload rfl ?_
        refine rb_getf (v := .ref 7) rfl ?_
        refine rb_iload rfl ?_
        refine rb_iald rfl (by decide) (show _ = some ((-1)) from rfl) ?_
        refine rb_push ?_
        refine rb_ceq (fun _ => ?_) (fun h => absurd (by decide) h)
        refine rn_step rfl ?_
        refine rb_iinc (lv' := [some (.ref 1), some (.int 0), some (.int 5)]) rfl rfl ?_
        refine rb_goto ?_
        refine rn_step rfl ?_
        refine rb_iload rfl ?_
        refine rb_push ?_
        refine rb_cge (fun h => absurd h (by decide)) (fun _ => ?_)
        refine rb_aload rfl ?_
        refine rb_getf (v := .ref 7) rfl ?_
        refine rb_iload rfl ?_
        refine rb_iald rfl (by decide) (show _ = some ((-1)) from rfl) ?_
        refine rb_push ?_
        refine rb_ceq (fun _ => ?_) (fun h => absurd (by decide) h)
        refine rn_step rfl ?_
        refine rb_iinc (lv' := [some (.ref 1), some (.int 0), some (.int 6)]) rfl rfl ?_
        refine rb_goto ?_
        refine rn_step rfl ?_
        refine rb_iload rfl ?_
        refine rb_push ?_
        refine rb_cge (fun h => absurd h (by decide)) (fun _ => ?_)
        refine rb_aload rfl ?_
        refine rb_getf (v := .ref 7) rfl ?_
        refine rb_iload rfl ?_
        refine rb_iald rfl (by decide) (show _ = some ((-1)) from rfl) ?_
        refine rb_push ?_
        refine rb_ceq (fun _ => ?_) (fun h => absurd (by decide) h)
        refine rn_step rfl ?_
        refine rb_iinc (lv' := [some (.ref 1), some (.int 0), some (.int 7)]) rfl rfl ?_
        refine rb_goto ?_
        refine rn_step rfl ?_
        refine rb_iload rfl ?_
        refine rb_push ?_
        refine rb_cge (fun h => absurd h (by decide)) (fun _ => ?_)
        refine rb_aload rfl ?_
        refine rb_getf (v := .ref 7) rfl ?_
        refine rb_iload rfl ?_
        refine rb_iald rfl (by decide) (show _ = some ((-1)) from rfl) ?_
        refine rb_push ?_
        refine rb_ceq (fun _ => ?_) (fun h => absurd (by decide) h)
        refine rn_step rfl ?_
        refine rb_iinc (lv' := [some (.ref 1), some (.int 0), some (.int 8)]) rfl rfl ?_
        refine rb_goto ?_
        refine rn_step rfl ?_
        refine rb_iload rfl ?_
        refine rb_push ?_
        refine rb_cge (fun h => absurd h (by decide)) (fun _ => ?_)
        refine rb_aload rfl ?_
        refine rb_getf (v := .ref 7) rfl ?_
        refine rb_iload rfl ?_
        refine rb_iald rfl (by decide) (show _ = some ((-1)) from rfl) ?_
        refine rb_push ?_
        refine rb_ceq (fun _ => ?_) (fun h => absurd (by decide) h)
        refine rn_step rfl ?_
        refine rb_iinc (lv' := [some (.ref 1), some (.int 0), some (.int 9)]) rfl rfl ?_
        refine rb_goto ?_
        refine rn_step rfl ?_
        refine rb_iload rfl ?_
        refine rb_push ?_
        refine rb_cge (fun h => absurd h (by decide)) (fun _ => ?_)
        refine rb_aload rfl ?_
        refine rb_getf (v := .ref 7) rfl ?_
        refine rb_iload rfl ?_
        refine rb_iald rfl (by decide) (show _ = some ((-1)) from rfl) ?_
        refine rb_push ?_
        refine rb_ceq (fun _ => ?_) (fun h => absurd (by decide) h)
        refine rn_step rfl ?_
        refine rb_iinc (lv' := [some (.ref 1), some (.int 0), some (.int 10)]) rfl rfl ?_
        refine rb_goto ?_
        refine rn_step rfl ?_
        refine rb_iload rfl ?_
        refine rb_push ?_
        refine rb_cge (fun h => absurd h (by decide)) (fun _ => ?_)
        refine rb_aload rfl ?_
        refine rb_getf (v := .ref 7) rfl ?_
        refine rb_iload rfl ?_
        refine rb_iald rfl (by decide) (show _ = some ((-1)) from rfl) ?_
        refine rb_push ?_
        refine rb_ceq (fun _ => ?_) (fun h => absurd (by decide) h)
        refine rn_step rfl ?_
        refine rb_iinc (lv' := [some (.ref 1), some (.int 0), some (.int 11)]) rfl rfl ?_
        refine rb_goto ?_
        refine rn_step rfl ?_
        refine rb_iload rfl ?_
        refine rb_push ?_
        refine rb_cge (fun h => absurd h (by decide)) (fun _ => ?_)
        refine rb_aload rfl ?_
        refine rb_getf (v := .ref 7) rfl ?_
        refine rb_iload rfl ?_
        refine rb_iald rfl (by decide) (show _ = some ((-1)) from rfl) ?_
        refine rb_push ?_
        refine rb_ceq (fun _ => ?_) (fun h => absurd (by decide) h)
        refine rn_step rfl ?_
        refine rb_iinc (lv' := [some (.ref 1), some (.int 0), some (.int 12)]) rfl rfl ?_
        refine rb_goto ?_
        refine rn_step rfl ?_
        refine rb_iload rfl ?_
        refine rb_push ?_
        refine rb_cge (fun _ => ?_) (fun h => absurd (by decide) h)
        refine rn_step rfl ?_
        refine rb_iload rfl ?_
        refine rb_ret rfl rfl
      apply rb_callS1
      case hcl => exact rfl
      case hc =>
        apply ex_J6_bitCount_0f7a4
        refine rn_step rfl ?_
        refine rb_iload rfl ?_
        refine rb_iload rfl ?_
        refine rb_push ?_
        refine rb_binL (z := 0) (by decide) ?_
        refine rb_push ?_
        refine rb_binL (z := 0) (by decide) ?_
        refine rb_binL (z := 0) (by decide) ?_
        refine rb_istore (lv' := [some (.int 0)]) rfl ?_
        refine rb_iload rfl ?_
        refine rb_push ?_
        refine rb_binL (z := 0) (by decide) ?_
        refine rb_iload rfl ?_
        refine rb_push ?_
        refine rb_binL (z := 0) (by decide) ?_
        refine rb_push ?_
        refine rb_binL (z := 0) (by decide) ?_
        refine rb_binL (z := 0) (by decide) ?_
        refine rb_istore (lv' := [some (.int 0)]) rfl ?_
        refine rb_iload rfl ?_
        refine rb_iload rfl ?_
        refine rb_push ?_
        refine rb_binL (z := 0) (by decide) ?_
        refine rb_binL (z := 0) (by decide) ?_
        refine rb_push ?_
        refine rb_binL (z := 0) (by decide) ?_
        refine rb_istore (lv' := [some (.int 0)]) rfl ?_
        refine rb_iload rfl ?_
        refine rb_iload rfl ?_
        refine rb_push ?_
        refine rb_binL (z := 0) (by decide) ?_
        refine rb_binL (z := 0) (by decide) ?_
        refine rb_istore (lv' := [some (.int 0)]) rfl ?_
        refine rb_iload rfl ?_
        refine rb_iload rfl ?_
        refine rb_push ?_
        refine rb_binL (z := 0) (by decide) ?_
        refine rb_binL (z := 0) (by decide) ?_
        refine rb_istore (lv' := [some (.int 0)]) rfl ?_
        refine rb_iload rfl ?_
        refine rb_push ?_
        refine rb_binL (z := 0) (by decide) ?_
        refine rb_ret rfl rfl
      refine rb_ret rfl rfl
    refine rb_iload rfl ?_
    refine rb_binL (z := 0) (by decide) ?_
    refine rb_ret rfl rfl
  case h2 =>
    apply ex_X9_days
    refine rn_step rfl ?_
    refine rb_iload rfl ?_
    refine rb_push ?_
    refine rb_push ?_
    apply rb_callS3
    case hcl => exact rfl
    case hc =>
      apply ex_X9_in
      refine rn_step rfl ?_
      refine rb_iload rfl ?_
      refine rb_iload rfl ?_
      refine rb_clt (fun h => absurd h (ia_nlt hla (by decide))) (fun _ => ?_)
      refine rb_iload rfl ?_
      refine rb_iload rfl ?_
      refine rb_cgt (fun h => absurd h (ia_ngt hha (by decide))) (fun _ => ?_)
      refine rb_push ?_
      refine rb_goto ?_
      refine rn_step rfl ?_
      refine rb_ret rfl rfl
    refine rb_ine (fun _ => ?_) (fun h => absurd (by decide) h)
    refine rn_step rfl ?_
    refine rb_aload rfl ?_
    apply rb_callV0
    case hb => exact rfl
    case hcl => exact rfl
    case hc =>
      apply ex_X9_manyLaid
      refine rn_step rfl ?_
      refine rb_push ?_
      refine rb_istore (lv' := [some (.ref 68), some (.int 0), none]) rfl ?_
      refine rb_push ?_
      refine rb_istore (lv' := [some (.ref 68), some (.int 0), some (.int 0)]) rfl ?_
      refine rb_goto ?_
      refine rn_step rfl ?_
      refine rb_iload rfl ?_
      refine rb_aload rfl ?_
      refine rb_getf (v := .ref 69) rfl ?_
      refine rb_push ?_
      refine rb_iald rfl (by decide) (show _ = some (0) from rfl) ?_
      refine rb_cge (fun _ => ?_) (fun h => absurd (by decide) h)
      refine rn_step rfl ?_
      refine rb_iload rfl ?_
      refine rb_ret rfl rfl
    refine rb_istore (lv' := [some (.ref 68), some (.int (nI n)), some (.int 0)]) rfl ?_
    refine rb_aload rfl ?_
    refine rb_push ?_
    refine rb_aload rfl ?_
    refine rb_getf (v := .ref 69) rfl ?_
    refine rb_push ?_
    refine rb_iald rfl (by decide) (show _ = some (0) from rfl) ?_
    refine rb_binL (z := 9999) (by decide) ?_
    refine rb_push ?_
    refine rb_iload rfl ?_
    apply rb_callS3
    case hcl => exact rfl
    case hc =>
      apply ex_X9_within
      refine rn_step rfl ?_
      refine rb_iload rfl ?_
      refine rb_iload rfl ?_
      refine rb_cge (fun _ => ?_) (fun h => absurd (by decide) h)
      refine rn_step rfl ?_
      refine rb_iload rfl ?_
      refine rb_iload rfl ?_
      refine rb_cle (fun h => absurd h (ia_nge (ia_lt hha (by decide)))) (fun _ => ?_)
      refine rb_iload rfl ?_
      refine rb_goto ?_
      refine rn_step rfl ?_
      refine rb_ret rfl rfl
    apply rb_callV1v
    case hb => exact rfl
    case hcl => exact rfl
    case hc =>
      exact hm
    refine rb_aload rfl ?_
    apply rb_callV0
    case hb => exact rfl
    case hcl => exact rfl
    case hc =>
      apply ex_X9_manyLaid
      refine rn_step rfl ?_
      refine rb_push ?_
      refine rb_istore (lv' := [some (.ref 68), some (.int 0), none]) rfl ?_
      refine rb_push ?_
      refine rb_istore (lv' := [some (.ref 68), some (.int 0), some (.int 0)]) rfl ?_
      refine rb_goto ?_
      refine rn_step rfl ?_
      refine rb_iload rfl ?_
      refine rb_aload rfl ?_
      refine rb_getf (v := .ref 69) rfl ?_
      refine rb_push ?_
      refine rb_iald rfl (by decide) (show _ = some (0) from rfl) ?_
      refine rb_cge (fun _ => ?_) (fun h => absurd (by decide) h)
      refine rn_step rfl ?_
      refine rb_iload rfl ?_
      refine rb_ret rfl rfl
    refine rb_iload rfl ?_
    refine rb_binL (z := 0) (by decide) ?_
    refine rb_ret rfl rfl
  case h3 => exact (okL.sA (okL.sI (okL.sI s1_ok _ _ _) _ _ _) _ (by simp only [List.length_set]))
  case h4 => exact rfl
set_option maxRecDepth 1000000 in
set_option maxHeartbeats 40000000 in
theorem p1_days (a : Int32) : P1 86 161 [.int a] := by
  have hla : -2147483648 ≤ a.toInt := ia_lo a
  have hha : a.toInt ≤ 2147483647 := ia_hi a
  rcases ia_cut (c := 1) hla hha with ⟨hla, hha⟩ | ⟨hla, hha⟩
  ·
    apply p1_intro (v := (-1000000001))
    case h1 =>
      apply ex_X8_days
      refine rn_step rfl ?_
      refine rb_iload rfl ?_
      refine rb_push ?_
      refine rb_push ?_
      apply rb_callS3
      case hcl => exact rfl
      case hc =>
        apply ex_X8_within
        refine rn_step rfl ?_
        refine rb_iload rfl ?_
        refine rb_iload rfl ?_
        refine rb_clt (fun _ => ?_) (fun h => absurd (ia_lt hha (by decide)) h)
        refine rn_step rfl ?_
        refine rb_push ?_
        refine rb_goto ?_
        refine rn_step rfl ?_
        refine rb_ret rfl rfl
      refine rb_ine (fun h => absurd (by decide) h) (fun _ => ?_)
      refine rb_push ?_
      refine rb_ret rfl rfl
    case h2 =>
      apply ex_X9_days
      refine rn_step rfl ?_
      refine rb_iload rfl ?_
      refine rb_push ?_
      refine rb_push ?_
      apply rb_callS3
      case hcl => exact rfl
      case hc =>
        apply ex_X9_in
        refine rn_step rfl ?_
        refine rb_iload rfl ?_
        refine rb_iload rfl ?_
        refine rb_clt (fun _ => ?_) (fun h => absurd (ia_lt hha (by decide)) h)
        refine rn_step rfl ?_
        refine rb_push ?_
        refine rb_goto ?_
        refine rn_step rfl ?_
        refine rb_ret rfl rfl
      refine rb_ine (fun h => absurd (by decide) h) (fun _ => ?_)
      refine rb_push ?_
      refine rb_ret rfl rfl
    case h3 => exact s1_ok
    case h4 => exact rfl
  · rcases ia_cut (c := 101) hla hha with ⟨hla, hha⟩ | ⟨hla, hha⟩
    · obtain ⟨n, hn, rfl⟩ := ia_box (l := 1) (m := 100) hla hha (by decide) (by decide)
      have e : Int32.ofInt (1 + (n : Int)) = nI (n + 1) := by rw [show (1 : Int) + (n : Int) = ((n + 1 : Nat) : Int) by omega]; exact Int32.ofInt_eq_ofNat ..
      rw [e]
      exact p1_days1 (n + 1) (by omega) (by omega)
    ·
      apply p1_intro (v := (-1000000001))
      case h1 =>
        apply ex_X8_days
        refine rn_step rfl ?_
        refine rb_iload rfl ?_
        refine rb_push ?_
        refine rb_push ?_
        apply rb_callS3
        case hcl => exact rfl
        case hc =>
          apply ex_X8_within
          refine rn_step rfl ?_
          refine rb_iload rfl ?_
          refine rb_iload rfl ?_
          refine rb_clt (fun h => absurd h (ia_nlt hla (by decide))) (fun _ => ?_)
          refine rb_iload rfl ?_
          refine rb_iload rfl ?_
          refine rb_cgt (fun _ => ?_) (fun h => absurd (ia_gt hla (by decide)) h)
          refine rn_step rfl ?_
          refine rb_push ?_
          refine rb_goto ?_
          refine rn_step rfl ?_
          refine rb_ret rfl rfl
        refine rb_ine (fun h => absurd (by decide) h) (fun _ => ?_)
        refine rb_push ?_
        refine rb_ret rfl rfl
      case h2 =>
        apply ex_X9_days
        refine rn_step rfl ?_
        refine rb_iload rfl ?_
        refine rb_push ?_
        refine rb_push ?_
        apply rb_callS3
        case hcl => exact rfl
        case hc =>
          apply ex_X9_in
          refine rn_step rfl ?_
          refine rb_iload rfl ?_
          refine rb_iload rfl ?_
          refine rb_clt (fun h => absurd h (ia_nlt hla (by decide))) (fun _ => ?_)
          refine rb_iload rfl ?_
          refine rb_iload rfl ?_
          refine rb_cgt (fun _ => ?_) (fun h => absurd (ia_gt hla (by decide)) h)
          refine rn_step rfl ?_
          refine rb_push ?_
          refine rb_goto ?_
          refine rn_step rfl ?_
          refine rb_ret rfl rfl
        refine rb_ine (fun h => absurd (by decide) h) (fun _ => ?_)
        refine rb_push ?_
        refine rb_ret rfl rfl
      case h3 => exact s1_ok
      case h4 => exact rfl
set_option maxRecDepth 1000000 in
set_option maxHeartbeats 40000000 in
theorem p1_behind1 (n : Nat) (hn : n ≤ 100) (b : Int32) (hlb : 0 ≤ b.toInt) (hhb : b.toInt ≤ 14) : P1 94 178 [.int (nI n), .int b] := by
  have hla : (0 : Int) ≤ (nI n).toInt := by rw [nI_toInt (by omega)]; omega
  have hha : (nI n).toInt ≤ 100 := by rw [nI_toInt (by omega)]; omega
  rcases ia_cut (c := 3) hlb hhb with ⟨hlb, hhb⟩ | ⟨hlb, hhb⟩
  ·
    rcases ia_cut (c := 1) hlb hhb with ⟨hlb, hhb⟩ | ⟨hlb, hhb⟩
    ·
      obtain rfl : b = 0 := ia_one hlb hhb (by decide) (by decide)
      obtain ⟨zx, dx, hx⟩ := c_passDays0 (d := 3) s1 isT24 ⟨rfl, rfl, rfl⟩ hn
      have ht := c_thinks (d := 6) (sI (sI s1 24 14 zx) 24 13 dx) (okL_len s1_ok (c := 69) (n := 1461) (by decide) rfl (by decide)) (okL_len s1_ok (c := 74) (n := 89) (by decide) rfl (by decide))
      obtain ⟨zm, dm, hm⟩ := c_goesOn0 (d := 3) (sA (sI (sI s1 24 14 zx) 24 13 dx) 74 (((sI (sI s1 24 14 zx) 24 13 dx).2.1 69).take 89)) (z := 1) (dd := 0) rfl rfl rfl rfl hn
      apply p1_intro (v := 2376)
      case h1 =>
        apply ex_X8_behind
        refine rn_step rfl ?_
        refine rb_iload rfl ?_
        refine rb_push ?_
        refine rb_push ?_
        apply rb_callS3
        case hcl => exact rfl
        case hc =>
          apply ex_X8_within
          refine rn_step rfl ?_
          refine rb_iload rfl ?_
          refine rb_iload rfl ?_
          refine rb_clt (fun h => absurd h (ia_nlt hla (by decide))) (fun _ => ?_)
          refine rb_iload rfl ?_
          refine rb_iload rfl ?_
          refine rb_cgt (fun h => absurd h (ia_ngt hha (by decide))) (fun _ => ?_)
          refine rb_push ?_
          refine rb_goto ?_
          refine rn_step rfl ?_
          refine rb_ret rfl rfl
        refine rb_ieq (fun h => absurd h (by decide)) (fun _ => ?_)
        refine rb_iload rfl ?_
        refine rb_push ?_
        refine rb_push ?_
        apply rb_callS3
        case hcl => exact rfl
        case hc =>
          apply ex_X8_within
          refine rn_step rfl ?_
          refine rb_iload rfl ?_
          refine rb_iload rfl ?_
          refine rb_clt (fun h => absurd h (by decide)) (fun _ => ?_)
          refine rb_iload rfl ?_
          refine rb_iload rfl ?_
          refine rb_cgt (fun h => absurd h (by decide)) (fun _ => ?_)
          refine rb_push ?_
          refine rb_goto ?_
          refine rn_step rfl ?_
          refine rb_ret rfl rfl
        refine rb_ine (fun _ => ?_) (fun h => absurd (by decide) h)
        refine rn_step rfl ?_
        refine rb_aload rfl ?_
        refine rb_getf (v := .ref 23) rfl ?_
        refine rb_aload rfl ?_
        refine rb_getf (v := .ref 1) rfl ?_
        refine rb_iload rfl ?_
        apply rb_callV2
        case hb => exact rfl
        case hcl => exact rfl
        case hc =>
          apply ex_X7_behindDays
          refine rn_step rfl ?_
          refine rb_aload rfl ?_
          refine rb_getf (v := .ref 24) rfl ?_
          refine rb_aload rfl ?_
          apply rb_callV1v
          case hb => exact rfl
          case hcl => exact rfl
          case hc =>
            exact p1_become24
          refine rb_aload rfl ?_
          refine rb_getf (v := .ref 24) rfl ?_
          refine rb_iload rfl ?_
          apply rb_callV1v
          case hb => exact rfl
          case hcl => exact rfl
          case hc =>
            exact hx
          refine rb_aload rfl ?_
          refine rb_getf (v := .ref 24) rfl ?_
          refine rb_ret rfl rfl
        refine rb_astore (lv' := [some (.ref 0), some (.int (nI n)), some (.int 0), some (.ref 24)]) rfl ?_
        refine rb_iload rfl ?_
        refine rb_swL (n := 3) (by decide) ?_
        refine rn_step rfl ?_
        refine rb_aload rfl ?_
        apply rb_callV0
        case hb => exact rfl
        case hcl => exact rfl
        case hc =>
          apply ex_X4_picture
          refine rn_step rfl ?_
          refine rb_push ?_
          refine rb_istore (lv' := [some (.ref 24), some (.int 0), none, none]) rfl ?_
          refine rb_push ?_
          refine rb_istore (lv' := [some (.ref 24), some (.int 0), some (.int 0), none]) rfl ?_
          refine rb_goto ?_
          refine rn_step rfl ?_
          refine rb_iload rfl ?_
          refine rb_push ?_
          refine rb_cge (fun h => absurd h (by decide)) (fun _ => ?_)
          refine rb_aload rfl ?_
          refine rb_getf (v := .ref 30) rfl ?_
          refine rb_iload rfl ?_
          refine rb_iald rfl (by decide) (show _ = some ((-1)) from rfl) ?_
          refine rb_istore (lv' := [some (.ref 24), some (.int 0), some (.int 0), some (.int (-1))]) rfl ?_
          refine rb_iload rfl ?_
          refine rb_iload rfl ?_
          refine rb_push ?_
          refine rb_cne (fun h => absurd (by decide) h) (fun _ => ?_)
          refine rb_push ?_
          refine rb_goto ?_
          refine rn_step rfl ?_
          refine rb_binL (z := 198) (by decide) ?_
          refine rb_istore (lv' := [some (.ref 24), some (.int 198), some (.int 0), some (.int (-1))]) rfl ?_
          refine rb_iinc (lv' := [some (.ref 24), some (.int 198), some (.int 1), some (.int (-1))]) rfl rfl ?_
          refine rb_goto ?_
          refine rn_step rfl ?_
          refine rb_iload rfl ?_
          refine rb_push ?_
          refine rb_cge (fun h => absurd h (by decide)) (fun _ => ?_)
          refine rb_aload rfl ?_
          refine rb_getf (v := .ref 30) rfl ?_
          refine rb_iload rfl ?_
          refine rb_iald rfl (by decide) (show _ = some ((-1)) from rfl) ?_
          refine rb_istore (lv' := [some (.ref 24), some (.int 198), some (.int 1), some (.int (-1))]) rfl ?_
          refine rb_iload rfl ?_
          refine rb_iload rfl ?_
          refine rb_push ?_
          refine rb_cne (fun h => absurd (by decide) h) (fun _ => ?_)
          refine rb_push ?_
          refine rb_goto ?_
          refine rn_step rfl ?_
          refine rb_binL (z := 396) (by decide) ?_
          refine rb_istore (lv' := [some (.ref 24), some (.int 396), some (.int 1), some (.int (-1))]) rfl ?_
          refine rb_iinc (lv' := [some (.ref 24), some (.int 396), some (.int 2), some (.int (-1))]) rfl rfl ?_
          refine rb_goto ?_
          refine rn_step rfl ?_
          refine rb_iload rfl ?_
          refine rb_push ?_
          refine rb_cge (fun h => absurd h (by decide)) (fun _ => ?_)
          refine rb_aload rfl ?_
          refine rb_getf (v := .ref 30) rfl ?_
          refine rb_iload rfl ?_
          refine rb_iald rfl (by decide) (show _ = some ((-1)) from rfl) ?_
          refine rb_istore (lv' := [some (.ref 24), some (.int 396), some (.int 2), some (.int (-1))]) rfl ?_
          refine rb_iload rfl ?_
          refine rb_iload rfl ?_
          refine rb_push ?_
          refine rb_cne (fun h => absurd (by decide) h) (fun _ => ?_)
          refine rb_push ?_
          refine rb_goto ?_
          refine rn_step rfl ?_
          refine rb_binL (z := 594) (by decide) ?_
          refine rb_istore (lv' := [some (.ref 24), some (.int 594), some (.int 2), some (.int (-1))]) rfl ?_
          refine rb_iinc (lv' := [some (.ref 24), some (.int 594), some (.int 3), some (.int (-1))]) rfl rfl ?_
          refine rb_goto ?_
          refine rn_step rfl ?_
          refine rb_iload rfl ?_
          refine rb_push ?_
          refine rb_cge (fun h => absurd h (by decide)) (fun _ => ?_)
          refine rb_aload rfl ?_
          refine rb_getf (v := .ref 30) rfl ?_
          refine rb_iload rfl ?_
          refine rb_iald rfl (by decide) (show _ = some ((-1)) from rfl) ?_
          refine rb_istore (lv' := [some (.ref 24), some (.int 594), some (.int 3), some (.int (-1))]) rfl ?_
          refine rb_iload rfl ?_
          refine rb_iload rfl ?_
          refine rb_push ?_
          refine rb_cne (fun h => absurd (by decide) h) (fun _ => ?_)
          refine rb_push ?_
          refine rb_goto ?_
          refine rn_step rfl ?_
          refine rb_binL (z := 792) (by decide) ?_
          refine rb_istore (lv' := [some (.ref 24), some (.int 792), some (.int 3), some (.int (-1))]) rfl ?_
          refine rb_iinc (lv' := [some (.ref 24), some (.int 792), some (.int 4), some (.int (-1))]) rfl rfl ?_
          refine rb_goto ?_
          refine rn_step rfl ?_
          refine rb_iload rfl ?_
          refine rb_push ?_
          refine rb_cge (fun h => absurd h (by decide)) (fun _ => ?_)
          refine rb_aload rfl ?_
          refine rb_getf (v := .ref 30) rfl ?_
          refine rb_iload rfl ?_
          refine rb_iald rfl (by decide) (show _ = some ((-1)) from rfl) ?_
          refine rb_istore (lv' := [some (.ref 24), some (.int 792), some (.int 4), some (.int (-1))]) rfl ?_
          refine rb_iload rfl ?_
          refine rb_iload rfl ?_
          refine rb_push ?_
          refine rb_cne (fun h => absurd (by decide) h) (fun _ => ?_)
          refine rb_push ?_
          refine rb_goto ?_
          refine rn_step rfl ?_
          refine rb_binL (z := 990) (by decide) ?_
          refine rb_istore (lv' := [some (.ref 24), some (.int 990), some (.int 4), some (.int (-1))]) rfl ?_
          refine rb_iinc (lv' := [some (.ref 24), some (.int 990), some (.int 5), some (.int (-1))]) rfl rfl ?_
          refine rb_goto ?_
          refine rn_step rfl ?_
          refine rb_iload rfl ?_
          refine rb_push ?_
          refine rb_cge (fun h => absurd h (by decide)) (fun _ => ?_)
          refine rb_aload rfl ?_
          refine rb_getf (v := .ref 30) rfl ?_
          refine rb_iload rfl ?_
          refine rb_iald rfl (by decide) (show _ = some ((-1)) from rfl) ?_
          refine rb_istore (lv' := [some (.ref 24), some (.int 990), some (.int 5), some (.int (-1))]) rfl ?_
          refine rb_iload rfl ?_
          refine rb_iload rfl ?_
          refine rb_push ?_
          refine rb_cne (fun h => absurd (by decide) h) (fun _ => ?_)
          refine rb_push ?_
          refine rb_goto ?_
          refine rn_step rfl ?_
          refine rb_binL (z := 1188) (by decide) ?_
          refine rb_istore (lv' := [some (.ref 24), some (.int 1188), some (.int 5), some (.int (-1))]) rfl ?_
          refine rb_iinc (lv' := [some (.ref 24), some (.int 1188), some (.int 6), some (.int (-1))]) rfl rfl ?_
          refine rb_goto ?_
          refine rn_step rfl ?_
          refine rb_iload rfl ?_
          refine rb_push ?_
          refine rb_cge (fun h => absurd h (by decide)) (fun _ => ?_)
          refine rb_aload rfl ?_
          refine rb_getf (v := .ref 30) rfl ?_
          refine rb_iload rfl ?_
          refine rb_iald rfl (by decide) (show _ = some ((-1)) from rfl) ?_
          refine rb_istore (lv' := [some (.ref 24), some (.int 1188), some (.int 6), some (.int (-1))]) rfl ?_
          refine rb_iload rfl ?_
          refine rb_iload rfl ?_
          refine rb_push ?_
          refine rb_cne (fun h => absurd (by decide) h) (fun _ => ?_)
          refine rb_push ?_
          refine rb_goto ?_
          refine rn_step rfl ?_
          refine rb_binL (z := 1386) (by decide) ?_
          refine rb_istore (lv' := [some (.ref 24), some (.int 1386), some (.int 6), some (.int (-1))]) rfl ?_
          refine rb_iinc (lv' := [some (.ref 24), some (.int 1386), some (.int 7), some (.int (-1))]) rfl rfl ?_
          refine rb_goto ?_
          refine rn_step rfl ?_
          refine rb_iload rfl ?_
          refine rb_push ?_
          refine rb_cge (fun h => absurd h (by decide)) (fun _ => ?_)
          refine rb_aload rfl ?_
          refine rb_getf (v := .ref 30) rfl ?_
          refine rb_iload rfl ?_
          refine rb_iald rfl (by decide) (show _ = some ((-1)) from rfl) ?_
          refine rb_istore (lv' := [some (.ref 24), some (.int 1386), some (.int 7), some (.int (-1))]) rfl ?_
          refine rb_iload rfl ?_
          refine rb_iload rfl ?_
          refine rb_push ?_
          refine rb_cne (fun h => absurd (by decide) h) (fun _ => ?_)
          refine rb_push ?_
          refine rb_goto ?_
          refine rn_step rfl ?_
          refine rb_binL (z := 1584) (by decide) ?_
          refine rb_istore (lv' := [some (.ref 24), some (.int 1584), some (.int 7), some (.int (-1))]) rfl ?_
          refine rb_iinc (lv' := [some (.ref 24), some (.int 1584), some (.int 8), some (.int (-1))]) rfl rfl ?_
          refine rb_goto ?_
          refine rn_step rfl ?_
          refine rb_iload rfl ?_
          refine rb_push ?_
          refine rb_cge (fun h => absurd h (by decide)) (fun _ => ?_)
          refine rb_aload rfl ?_
          refine rb_getf (v := .ref 30) rfl ?_
          refine rb_iload rfl ?_
          refine rb_iald rfl (by decide) (show _ = some ((-1)) from rfl) ?_
          refine rb_istore (lv' := [some (.ref 24), some (.int 1584), some (.int 8), some (.int (-1))]) rfl ?_
          refine rb_iload rfl ?_
          refine rb_iload rfl ?_
          refine rb_push ?_
          refine rb_cne (fun h => absurd (by decide) h) (fun _ => ?_)
          refine rb_push ?_
          refine rb_goto ?_
          refine rn_step rfl ?_
          refine rb_binL (z := 1782) (by decide) ?_
          refine rb_istore (lv' := [some (.ref 24), some (.int 1782), some (.int 8), some (.int (-1))]) rfl ?_
          refine rb_iinc (lv' := [some (.ref 24), some (.int 1782), some (.int 9), some (.int (-1))]) rfl rfl ?_
          refine rb_goto ?_
          refine rn_step rfl ?_
          refine rb_iload rfl ?_
          refine rb_push ?_
          refine rb_cge (fun h => absurd h (by decide)) (fun _ => ?_)
          refine rb_aload rfl ?_
          refine rb_getf (v := .ref 30) rfl ?_
          refine rb_iload rfl ?_
          refine rb_iald rfl (by decide) (show _ = some ((-1)) from rfl) ?_
          refine rb_istore (lv' := [some (.ref 24), some (.int 1782), some (.int 9), some (.int (-1))]) rfl ?_
          refine rb_iload rfl ?_
          refine rb_iload rfl ?_
          refine rb_push ?_
          refine rb_cne (fun h => absurd (by decide) h) (fun _ => ?_)
          refine rb_push ?_
          refine rb_goto ?_
          refine rn_step rfl ?_
          refine rb_binL (z := 1980) (by decide) ?_
          refine rb_istore (lv' := [some (.ref 24), some (.int 1980), some (.int 9), some (.int (-1))]) rfl ?_
          refine rb_iinc (lv' := [some (.ref 24), some (.int 1980), some (.int 10), some (.int (-1))]) rfl rfl ?_
          refine rb_goto ?_
          refine rn_step rfl ?_
          refine rb_iload rfl ?_
          refine rb_push ?_
          refine rb_cge (fun h => absurd h (by decide)) (fun _ => ?_)
          refine rb_aload rfl ?_
          refine rb_getf (v := .ref 30) rfl ?_
          refine rb_iload rfl ?_
          refine rb_iald rfl (by decide) (show _ = some ((-1)) from rfl) ?_
          refine rb_istore (lv' := [some (.ref 24), some (.int 1980), some (.int 10), some (.int (-1))]) rfl ?_
          refine rb_iload rfl ?_
          refine rb_iload rfl ?_
          refine rb_push ?_
          refine rb_cne (fun h => absurd (by decide) h) (fun _ => ?_)
          refine rb_push ?_
          refine rb_goto ?_
          refine rn_step rfl ?_
          refine rb_binL (z := 2178) (by decide) ?_
          refine rb_istore (lv' := [some (.ref 24), some (.int 2178), some (.int 10), some (.int (-1))]) rfl ?_
          refine rb_iinc (lv' := [some (.ref 24), some (.int 2178), some (.int 11), some (.int (-1))]) rfl rfl ?_
          refine rb_goto ?_
          refine rn_step rfl ?_
          refine rb_iload rfl ?_
          refine rb_push ?_
          refine rb_cge (fun h => absurd h (by decide)) (fun _ => ?_)
          refine rb_aload rfl ?_
          refine rb_getf (v := .ref 30) rfl ?_
          refine rb_iload rfl ?_
          refine rb_iald rfl (by decide) (show _ = some ((-1)) from rfl) ?_
          refine rb_istore (lv' := [some (.ref 24), some (.int 2178), some (.int 11), some (.int (-1))]) rfl ?_
          refine rb_iload rfl ?_
          refine rb_iload rfl ?_
          refine rb_push ?_
          refine rb_cne (fun h => absurd (by decide) h) (fun _ => ?_)
          refine rb_push ?_
          refine rb_goto ?_
          refine rn_step rfl ?_
          refine rb_binL (z := 2376) (by decide) ?_
          refine rb_istore (lv' := [some (.ref 24), some (.int 2376), some (.int 11), some (.int (-1))]) rfl ?_
          refine rb_iinc (lv' := [some (.ref 24), some (.int 2376), some (.int 12), some (.int (-1))]) rfl rfl ?_
          refine rb_goto ?_
          refine rn_step rfl ?_
          refine rb_iload rfl ?_
          refine rb_push ?_
          refine rb_cge (fun _ => ?_) (fun h => absurd (by decide) h)
          refine rn_step rfl ?_
          refine rb_iload rfl ?_
          refine rb_ret rfl rfl
        refine rb_ret rfl rfl
      case h2 =>
        apply ex_X9_behind
        refine rn_step rfl ?_
        refine rb_iload rfl ?_
        refine rb_push ?_
        refine rb_push ?_
        apply rb_callS3
        case hcl => exact rfl
        case hc =>
          apply ex_X9_in
          refine rn_step rfl ?_
          refine rb_iload rfl ?_
          refine rb_iload rfl ?_
          refine rb_clt (fun h => absurd h (ia_nlt hla (by decide))) (fun _ => ?_)
          refine rb_iload rfl ?_
          refine rb_iload rfl ?_
          refine rb_cgt (fun h => absurd h (ia_ngt hha (by decide))) (fun _ => ?_)
          refine rb_push ?_
          refine rb_goto ?_
          refine rn_step rfl ?_
          refine rb_ret rfl rfl
        refine rb_ieq (fun h => absurd h (by decide)) (fun _ => ?_)
        refine rb_iload rfl ?_
        refine rb_push ?_
        refine rb_push ?_
        apply rb_callS3
        case hcl => exact rfl
        case hc =>
          apply ex_X9_in
          refine rn_step rfl ?_
          refine rb_iload rfl ?_
          refine rb_iload rfl ?_
          refine rb_clt (fun h => absurd h (by decide)) (fun _ => ?_)
          refine rb_iload rfl ?_
          refine rb_iload rfl ?_
          refine rb_cgt (fun h => absurd h (by decide)) (fun _ => ?_)
          refine rb_push ?_
          refine rb_goto ?_
          refine rn_step rfl ?_
          refine rb_ret rfl rfl
        refine rb_ine (fun _ => ?_) (fun h => absurd (by decide) h)
        refine rn_step rfl ?_
        refine rb_aload rfl ?_
        apply rb_callV0v
        case hb => exact rfl
        case hcl => exact rfl
        case hc =>
          exact ht
        refine rb_aload rfl ?_
        refine rb_iload rfl ?_
        apply rb_callV1v
        case hb => exact rfl
        case hcl => exact rfl
        case hc =>
          exact hm
        refine rb_iload rfl ?_
        refine rb_push ?_
        refine rb_cle (fun _ => ?_) (fun h => absurd (by decide) h)
        refine rn_step rfl ?_
        refine rb_aload rfl ?_
        refine rb_iload rfl ?_
        apply rb_callV1
        case hb => exact rfl
        case hcl => exact rfl
        case hc =>
          apply ex_X9_king
          refine rn_step rfl ?_
          refine rb_iload rfl ?_
          refine rb_swL (n := 1) (by decide) ?_
          refine rn_step rfl ?_
          refine rb_aload rfl ?_
          apply rb_callV0
          case hb => exact rfl
          case hcl => exact rfl
          case hc =>
            apply ex_X9_picture
            refine rn_step rfl ?_
            refine rb_push ?_
            refine rb_istore (lv' := [some (.ref 68), some (.int 0), none, none]) rfl ?_
            refine rb_push ?_
            refine rb_istore (lv' := [some (.ref 68), some (.int 0), some (.int 0), none]) rfl ?_
            refine rb_goto ?_
            refine rn_step rfl ?_
            refine rb_iload rfl ?_
            refine rb_push ?_
            refine rb_cge (fun h => absurd h (by decide)) (fun _ => ?_)
            refine rb_aload rfl ?_
            refine rb_iload rfl ?_
            apply rb_callV1
            case hb => exact rfl
            case hcl => exact rfl
            case hc =>
              apply ex_X9_holder
              refine rn_step rfl ?_
              refine rb_push ?_
              refine rb_istore (lv' := [some (.ref 68), some (.int 0), some (.int (-1)), none]) rfl ?_
              refine rb_push ?_
              refine rb_istore (lv' := [some (.ref 68), some (.int 0), some (.int (-1)), some (.int 0)]) rfl ?_
              refine rb_goto ?_
              refine rn_step rfl ?_
              refine rb_iload rfl ?_
              refine rb_aload rfl ?_
              refine rb_getf (v := .ref 69) rfl ?_
              refine rb_push ?_
              refine rb_iald rfl (by decide) (show _ = some (0) from rfl) ?_
              refine rb_cge (fun _ => ?_) (fun h => absurd (by decide) h)
              refine rn_step rfl ?_
              refine rb_iload rfl ?_
              refine rb_ret rfl rfl
            refine rb_istore (lv' := [some (.ref 68), some (.int 0), some (.int 0), some (.int (-1))]) rfl ?_
            refine rb_iload rfl ?_
            refine rb_iload rfl ?_
            refine rb_ige (fun h => absurd h (by decide)) (fun _ => ?_)
            refine rb_push ?_
            refine rb_goto ?_
            refine rn_step rfl ?_
            refine rb_binL (z := 198) (by decide) ?_
            refine rb_istore (lv' := [some (.ref 68), some (.int 198), some (.int 0), some (.int (-1))]) rfl ?_
            refine rb_iinc (lv' := [some (.ref 68), some (.int 198), some (.int 1), some (.int (-1))]) rfl rfl ?_
            refine rb_goto ?_
            refine rn_step rfl ?_
            refine rb_iload rfl ?_
            refine rb_push ?_
            refine rb_cge (fun h => absurd h (by decide)) (fun _ => ?_)
            refine rb_aload rfl ?_
            refine rb_iload rfl ?_
            apply rb_callV1
            case hb => exact rfl
            case hcl => exact rfl
            case hc =>
              apply ex_X9_holder
              refine rn_step rfl ?_
              refine rb_push ?_
              refine rb_istore (lv' := [some (.ref 68), some (.int 1), some (.int (-1)), none]) rfl ?_
              refine rb_push ?_
              refine rb_istore (lv' := [some (.ref 68), some (.int 1), some (.int (-1)), some (.int 0)]) rfl ?_
              refine rb_goto ?_
              refine rn_step rfl ?_
              refine rb_iload rfl ?_
              refine rb_aload rfl ?_
              refine rb_getf (v := .ref 69) rfl ?_
              refine rb_push ?_
              refine rb_iald rfl (by decide) (show _ = some (0) from rfl) ?_
              refine rb_cge (fun _ => ?_) (fun h => absurd (by decide) h)
              refine rn_step rfl ?_
              refine rb_iload rfl ?_
              refine rb_ret rfl rfl
            refine rb_istore (lv' := [some (.ref 68), some (.int 198), some (.int 1), some (.int (-1))]) rfl ?_
            refine rb_iload rfl ?_
            refine rb_iload rfl ?_
            refine rb_ige (fun h => absurd h (by decide)) (fun _ => ?_)
            refine rb_push ?_
            refine rb_goto ?_
            refine rn_step rfl ?_
            refine rb_binL (z := 396) (by decide) ?_
            refine rb_istore (lv' := [some (.ref 68), some (.int 396), some (.int 1), some (.int (-1))]) rfl ?_
            refine rb_iinc (lv' := [some (.ref 68), some (.int 396), some (.int 2), some (.int (-1))]) rfl rfl ?_
            refine rb_goto ?_
            refine rn_step rfl ?_
            refine rb_iload rfl ?_
            refine rb_push ?_
            refine rb_cge (fun h => absurd h (by decide)) (fun _ => ?_)
            refine rb_aload rfl ?_
            refine rb_iload rfl ?_
            apply rb_callV1
            case hb => exact rfl
            case hcl => exact rfl
            case hc =>
              apply ex_X9_holder
              refine rn_step rfl ?_
              refine rb_push ?_
              refine rb_istore (lv' := [some (.ref 68), some (.int 2), some (.int (-1)), none]) rfl ?_
              refine rb_push ?_
              refine rb_istore (lv' := [some (.ref 68), some (.int 2), some (.int (-1)), some (.int 0)]) rfl ?_
              refine rb_goto ?_
              refine rn_step rfl ?_
              refine rb_iload rfl ?_
              refine rb_aload rfl ?_
              refine rb_getf (v := .ref 69) rfl ?_
              refine rb_push ?_
              refine rb_iald rfl (by decide) (show _ = some (0) from rfl) ?_
              refine rb_cge (fun _ => ?_) (fun h => absurd (by decide) h)
              refine rn_step rfl ?_
              refine rb_iload rfl ?_
              refine rb_ret rfl rfl
            refine rb_istore (lv' := [some (.ref 68), some (.int 396), some (.int 2), some (.int (-1))]) rfl ?_
            refine rb_iload rfl ?_
            refine rb_iload rfl ?_
            refine rb_ige (fun h => absurd h (by decide)) (fun _ => ?_)
            refine rb_push ?_
            refine rb_goto ?_
            refine rn_step rfl ?_
            refine rb_binL (z := 594) (by decide) ?_
            refine rb_istore (lv' := [some (.ref 68), some (.int 594), some (.int 2), some (.int (-1))]) rfl ?_
            refine rb_iinc (lv' := [some (.ref 68), some (.int 594), some (.int 3), some (.int (-1))]) rfl rfl ?_
            refine rb_goto ?_
            refine rn_step rfl ?_
            refine rb_iload rfl ?_
            refine rb_push ?_
            refine rb_cge (fun h => absurd h (by decide)) (fun _ => ?_)
            refine rb_aload rfl ?_
            refine rb_iload rfl ?_
            apply rb_callV1
            case hb => exact rfl
            case hcl => exact rfl
            case hc =>
              apply ex_X9_holder
              refine rn_step rfl ?_
              refine rb_push ?_
              refine rb_istore (lv' := [some (.ref 68), some (.int 3), some (.int (-1)), none]) rfl ?_
              refine rb_push ?_
              refine rb_istore (lv' := [some (.ref 68), some (.int 3), some (.int (-1)), some (.int 0)]) rfl ?_
              refine rb_goto ?_
              refine rn_step rfl ?_
              refine rb_iload rfl ?_
              refine rb_aload rfl ?_
              refine rb_getf (v := .ref 69) rfl ?_
              refine rb_push ?_
              refine rb_iald rfl (by decide) (show _ = some (0) from rfl) ?_
              refine rb_cge (fun _ => ?_) (fun h => absurd (by decide) h)
              refine rn_step rfl ?_
              refine rb_iload rfl ?_
              refine rb_ret rfl rfl
            refine rb_istore (lv' := [some (.ref 68), some (.int 594), some (.int 3), some (.int (-1))]) rfl ?_
            refine rb_iload rfl ?_
            refine rb_iload rfl ?_
            refine rb_ige (fun h => absurd h (by decide)) (fun _ => ?_)
            refine rb_push ?_
            refine rb_goto ?_
            refine rn_step rfl ?_
            refine rb_binL (z := 792) (by decide) ?_
            refine rb_istore (lv' := [some (.ref 68), some (.int 792), some (.int 3), some (.int (-1))]) rfl ?_
            refine rb_iinc (lv' := [some (.ref 68), some (.int 792), some (.int 4), some (.int (-1))]) rfl rfl ?_
            refine rb_goto ?_
            refine rn_step rfl ?_
            refine rb_iload rfl ?_
            refine rb_push ?_
            refine rb_cge (fun h => absurd h (by decide)) (fun _ => ?_)
            refine rb_aload rfl ?_
            refine rb_iload rfl ?_
            apply rb_callV1
            case hb => exact rfl
            case hcl => exact rfl
            case hc =>
              apply ex_X9_holder
              refine rn_step rfl ?_
              refine rb_push ?_
              refine rb_istore (lv' := [some (.ref 68), some (.int 4), some (.int (-1)), none]) rfl ?_
              refine rb_push ?_
              refine rb_istore (lv' := [some (.ref 68), some (.int 4), some (.int (-1)), some (.int 0)]) rfl ?_
              refine rb_goto ?_
              refine rn_step rfl ?_
              refine rb_iload rfl ?_
              refine rb_aload rfl ?_
              refine rb_getf (v := .ref 69) rfl ?_
              refine rb_push ?_
              refine rb_iald rfl (by decide) (show _ = some (0) from rfl) ?_
              refine rb_cge (fun _ => ?_) (fun h => absurd (by decide) h)
              refine rn_step rfl ?_
              refine rb_iload rfl ?_
              refine rb_ret rfl rfl
            refine rb_istore (lv' := [some (.ref 68), some (.int 792), some (.int 4), some (.int (-1))]) rfl ?_
            refine rb_iload rfl ?_
            refine rb_iload rfl ?_
            refine rb_ige (fun h => absurd h (by decide)) (fun _ => ?_)
            refine rb_push ?_
            refine rb_goto ?_
            refine rn_step rfl ?_
            refine rb_binL (z := 990) (by decide) ?_
            refine rb_istore (lv' := [some (.ref 68), some (.int 990), some (.int 4), some (.int (-1))]) rfl ?_
            refine rb_iinc (lv' := [some (.ref 68), some (.int 990), some (.int 5), some (.int (-1))]) rfl rfl ?_
            refine rb_goto ?_
            refine rn_step rfl ?_
            refine rb_iload rfl ?_
            refine rb_push ?_
            refine rb_cge (fun h => absurd h (by decide)) (fun _ => ?_)
            refine rb_aload rfl ?_
            refine rb_iload rfl ?_
            apply rb_callV1
            case hb => exact rfl
            case hcl => exact rfl
            case hc =>
              apply ex_X9_holder
              refine rn_step rfl ?_
              refine rb_push ?_
              refine rb_istore (lv' := [some (.ref 68), some (.int 5), some (.int (-1)), none]) rfl ?_
              refine rb_push ?_
              refine rb_istore (lv' := [some (.ref 68), some (.int 5), some (.int (-1)), some (.int 0)]) rfl ?_
              refine rb_goto ?_
              refine rn_step rfl ?_
              refine rb_iload rfl ?_
              refine rb_aload rfl ?_
              refine rb_getf (v := .ref 69) rfl ?_
              refine rb_push ?_
              refine rb_iald rfl (by decide) (show _ = some (0) from rfl) ?_
              refine rb_cge (fun _ => ?_) (fun h => absurd (by decide) h)
              refine rn_step rfl ?_
              refine rb_iload rfl ?_
              refine rb_ret rfl rfl
            refine rb_istore (lv' := [some (.ref 68), some (.int 990), some (.int 5), some (.int (-1))]) rfl ?_
            refine rb_iload rfl ?_
            refine rb_iload rfl ?_
            refine rb_ige (fun h => absurd h (by decide)) (fun _ => ?_)
            refine rb_push ?_
            refine rb_goto ?_
            refine rn_step rfl ?_
            refine rb_binL (z := 1188) (by decide) ?_
            refine rb_istore (lv' := [some (.ref 68), some (.int 1188), some (.int 5), some (.int (-1))]) rfl ?_
            refine rb_iinc (lv' := [some (.ref 68), some (.int 1188), some (.int 6), some (.int (-1))]) rfl rfl ?_
            refine rb_goto ?_
            refine rn_step rfl ?_
            refine rb_iload rfl ?_
            refine rb_push ?_
            refine rb_cge (fun h => absurd h (by decide)) (fun _ => ?_)
            refine rb_aload rfl ?_
            refine rb_iload rfl ?_
            apply rb_callV1
            case hb => exact rfl
            case hcl => exact rfl
            case hc =>
              apply ex_X9_holder
              refine rn_step rfl ?_
              refine rb_push ?_
              refine rb_istore (lv' := [some (.ref 68), some (.int 6), some (.int (-1)), none]) rfl ?_
              refine rb_push ?_
              refine rb_istore (lv' := [some (.ref 68), some (.int 6), some (.int (-1)), some (.int 0)]) rfl ?_
              refine rb_goto ?_
              refine rn_step rfl ?_
              refine rb_iload rfl ?_
              refine rb_aload rfl ?_
              refine rb_getf (v := .ref 69) rfl ?_
              refine rb_push ?_
              refine rb_iald rfl (by decide) (show _ = some (0) from rfl) ?_
              refine rb_cge (fun _ => ?_) (fun h => absurd (by decide) h)
              refine rn_step rfl ?_
              refine rb_iload rfl ?_
              refine rb_ret rfl rfl
            refine rb_istore (lv' := [some (.ref 68), some (.int 1188), some (.int 6), some (.int (-1))]) rfl ?_
            refine rb_iload rfl ?_
            refine rb_iload rfl ?_
            refine rb_ige (fun h => absurd h (by decide)) (fun _ => ?_)
            refine rb_push ?_
            refine rb_goto ?_
            refine rn_step rfl ?_
            refine rb_binL (z := 1386) (by decide) ?_
            refine rb_istore (lv' := [some (.ref 68), some (.int 1386), some (.int 6), some (.int (-1))]) rfl ?_
            refine rb_iinc (lv' := [some (.ref 68), some (.int 1386), some (.int 7), some (.int (-1))]) rfl rfl ?_
            refine rb_goto ?_
            refine rn_step rfl ?_
            refine rb_iload rfl ?_
            refine rb_push ?_
            refine rb_cge (fun h => absurd h (by decide)) (fun _ => ?_)
            refine rb_aload rfl ?_
            refine rb_iload rfl ?_
            apply rb_callV1
            case hb => exact rfl
            case hcl => exact rfl
            case hc =>
              apply ex_X9_holder
              refine rn_step rfl ?_
              refine rb_push ?_
              refine rb_istore (lv' := [some (.ref 68), some (.int 7), some (.int (-1)), none]) rfl ?_
              refine rb_push ?_
              refine rb_istore (lv' := [some (.ref 68), some (.int 7), some (.int (-1)), some (.int 0)]) rfl ?_
              refine rb_goto ?_
              refine rn_step rfl ?_
              refine rb_iload rfl ?_
              refine rb_aload rfl ?_
              refine rb_getf (v := .ref 69) rfl ?_
              refine rb_push ?_
              refine rb_iald rfl (by decide) (show _ = some (0) from rfl) ?_
              refine rb_cge (fun _ => ?_) (fun h => absurd (by decide) h)
              refine rn_step rfl ?_
              refine rb_iload rfl ?_
              refine rb_ret rfl rfl
            refine rb_istore (lv' := [some (.ref 68), some (.int 1386), some (.int 7), some (.int (-1))]) rfl ?_
            refine rb_iload rfl ?_
            refine rb_iload rfl ?_
            refine rb_ige (fun h => absurd h (by decide)) (fun _ => ?_)
            refine rb_push ?_
            refine rb_goto ?_
            refine rn_step rfl ?_
            refine rb_binL (z := 1584) (by decide) ?_
            refine rb_istore (lv' := [some (.ref 68), some (.int 1584), some (.int 7), some (.int (-1))]) rfl ?_
            refine rb_iinc (lv' := [some (.ref 68), some (.int 1584), some (.int 8), some (.int (-1))]) rfl rfl ?_
            refine rb_goto ?_
            refine rn_step rfl ?_
            refine rb_iload rfl ?_
            refine rb_push ?_
            refine rb_cge (fun h => absurd h (by decide)) (fun _ => ?_)
            refine rb_aload rfl ?_
            refine rb_iload rfl ?_
            apply rb_callV1
            case hb => exact rfl
            case hcl => exact rfl
            case hc =>
              apply ex_X9_holder
              refine rn_step rfl ?_
              refine rb_push ?_
              refine rb_istore (lv' := [some (.ref 68), some (.int 8), some (.int (-1)), none]) rfl ?_
              refine rb_push ?_
              refine rb_istore (lv' := [some (.ref 68), some (.int 8), some (.int (-1)), some (.int 0)]) rfl ?_
              refine rb_goto ?_
              refine rn_step rfl ?_
              refine rb_iload rfl ?_
              refine rb_aload rfl ?_
              refine rb_getf (v := .ref 69) rfl ?_
              refine rb_push ?_
              refine rb_iald rfl (by decide) (show _ = some (0) from rfl) ?_
              refine rb_cge (fun _ => ?_) (fun h => absurd (by decide) h)
              refine rn_step rfl ?_
              refine rb_iload rfl ?_
              refine rb_ret rfl rfl
            refine rb_istore (lv' := [some (.ref 68), some (.int 1584), some (.int 8), some (.int (-1))]) rfl ?_
            refine rb_iload rfl ?_
            refine rb_iload rfl ?_
            refine rb_ige (fun h => absurd h (by decide)) (fun _ => ?_)
            refine rb_push ?_
            refine rb_goto ?_
            refine rn_step rfl ?_
            refine rb_binL (z := 1782) (by decide) ?_
            refine rb_istore (lv' := [some (.ref 68), some (.int 1782), some (.int 8), some (.int (-1))]) rfl ?_
            refine rb_iinc (lv' := [some (.ref 68), some (.int 1782), some (.int 9), some (.int (-1))]) rfl rfl ?_
            refine rb_goto ?_
            refine rn_step rfl ?_
            refine rb_iload rfl ?_
            refine rb_push ?_
            refine rb_cge (fun h => absurd h (by decide)) (fun _ => ?_)
            refine rb_aload rfl ?_
            refine rb_iload rfl ?_
            apply rb_callV1
            case hb => exact rfl
            case hcl => exact rfl
            case hc =>
              apply ex_X9_holder
              refine rn_step rfl ?_
              refine rb_push ?_
              refine rb_istore (lv' := [some (.ref 68), some (.int 9), some (.int (-1)), none]) rfl ?_
              refine rb_push ?_
              refine rb_istore (lv' := [some (.ref 68), some (.int 9), some (.int (-1)), some (.int 0)]) rfl ?_
              refine rb_goto ?_
              refine rn_step rfl ?_
              refine rb_iload rfl ?_
              refine rb_aload rfl ?_
              refine rb_getf (v := .ref 69) rfl ?_
              refine rb_push ?_
              refine rb_iald rfl (by decide) (show _ = some (0) from rfl) ?_
              refine rb_cge (fun _ => ?_) (fun h => absurd (by decide) h)
              refine rn_step rfl ?_
              refine rb_iload rfl ?_
              refine rb_ret rfl rfl
            refine rb_istore (lv' := [some (.ref 68), some (.int 1782), some (.int 9), some (.int (-1))]) rfl ?_
            refine rb_iload rfl ?_
            refine rb_iload rfl ?_
            refine rb_ige (fun h => absurd h (by decide)) (fun _ => ?_)
            refine rb_push ?_
            refine rb_goto ?_
            refine rn_step rfl ?_
            refine rb_binL (z := 1980) (by decide) ?_
            refine rb_istore (lv' := [some (.ref 68), some (.int 1980), some (.int 9), some (.int (-1))]) rfl ?_
            refine rb_iinc (lv' := [some (.ref 68), some (.int 1980), some (.int 10), some (.int (-1))]) rfl rfl ?_
            refine rb_goto ?_
            refine rn_step rfl ?_
            refine rb_iload rfl ?_
            refine rb_push ?_
            refine rb_cge (fun h => absurd h (by decide)) (fun _ => ?_)
            refine rb_aload rfl ?_
            refine rb_iload rfl ?_
            apply rb_callV1
            case hb => exact rfl
            case hcl => exact rfl
            case hc =>
              apply ex_X9_holder
              refine rn_step rfl ?_
              refine rb_push ?_
              refine rb_istore (lv' := [some (.ref 68), some (.int 10), some (.int (-1)), none]) rfl ?_
              refine rb_push ?_
              refine rb_istore (lv' := [some (.ref 68), some (.int 10), some (.int (-1)), some (.int 0)]) rfl ?_
              refine rb_goto ?_
              refine rn_step rfl ?_
              refine rb_iload rfl ?_
              refine rb_aload rfl ?_
              refine rb_getf (v := .ref 69) rfl ?_
              refine rb_push ?_
              refine rb_iald rfl (by decide) (show _ = some (0) from rfl) ?_
              refine rb_cge (fun _ => ?_) (fun h => absurd (by decide) h)
              refine rn_step rfl ?_
              refine rb_iload rfl ?_
              refine rb_ret rfl rfl
            refine rb_istore (lv' := [some (.ref 68), some (.int 1980), some (.int 10), some (.int (-1))]) rfl ?_
            refine rb_iload rfl ?_
            refine rb_iload rfl ?_
            refine rb_ige (fun h => absurd h (by decide)) (fun _ => ?_)
            refine rb_push ?_
            refine rb_goto ?_
            refine rn_step rfl ?_
            refine rb_binL (z := 2178) (by decide) ?_
            refine rb_istore (lv' := [some (.ref 68), some (.int 2178), some (.int 10), some (.int (-1))]) rfl ?_
            refine rb_iinc (lv' := [some (.ref 68), some (.int 2178), some (.int 11), some (.int (-1))]) rfl rfl ?_
            refine rb_goto ?_
            refine rn_step rfl ?_
            refine rb_iload rfl ?_
            refine rb_push ?_
            refine rb_cge (fun h => absurd h (by decide)) (fun _ => ?_)
            refine rb_aload rfl ?_
            refine rb_iload rfl ?_
            apply rb_callV1
            case hb => exact rfl
            case hcl => exact rfl
            case hc =>
              apply ex_X9_holder
              refine rn_step rfl ?_
              refine rb_push ?_
              refine rb_istore (lv' := [some (.ref 68), some (.int 11), some (.int (-1)), none]) rfl ?_
              refine rb_push ?_
              refine rb_istore (lv' := [some (.ref 68), some (.int 11), some (.int (-1)), some (.int 0)]) rfl ?_
              refine rb_goto ?_
              refine rn_step rfl ?_
              refine rb_iload rfl ?_
              refine rb_aload rfl ?_
              refine rb_getf (v := .ref 69) rfl ?_
              refine rb_push ?_
              refine rb_iald rfl (by decide) (show _ = some (0) from rfl) ?_
              refine rb_cge (fun _ => ?_) (fun h => absurd (by decide) h)
              refine rn_step rfl ?_
              refine rb_iload rfl ?_
              refine rb_ret rfl rfl
            refine rb_istore (lv' := [some (.ref 68), some (.int 2178), some (.int 11), some (.int (-1))]) rfl ?_
            refine rb_iload rfl ?_
            refine rb_iload rfl ?_
            refine rb_ige (fun h => absurd h (by decide)) (fun _ => ?_)
            refine rb_push ?_
            refine rb_goto ?_
            refine rn_step rfl ?_
            refine rb_binL (z := 2376) (by decide) ?_
            refine rb_istore (lv' := [some (.ref 68), some (.int 2376), some (.int 11), some (.int (-1))]) rfl ?_
            refine rb_iinc (lv' := [some (.ref 68), some (.int 2376), some (.int 12), some (.int (-1))]) rfl rfl ?_
            refine rb_goto ?_
            refine rn_step rfl ?_
            refine rb_iload rfl ?_
            refine rb_push ?_
            refine rb_cge (fun _ => ?_) (fun h => absurd (by decide) h)
            refine rn_step rfl ?_
            refine rb_iload rfl ?_
            refine rb_ret rfl rfl
          refine rb_ret rfl rfl
        refine rb_goto ?_
        refine rn_step rfl ?_
        refine rb_istore (lv' := [some (.ref 68), some (.int (nI n)), some (.int 0), some (.int 2376)]) rfl ?_
        refine rb_aload rfl ?_
        apply rb_callV0v
        case hb => exact rfl
        case hcl => exact rfl
        case hc =>
          exact c_putsBack (d := 6) _ (okL_len (okL.sA (okL.sA (okL.sI (okL.sI s1_ok _ _ _) _ _ _) _ (by rw [List.length_take, okL_len (okL.sI (okL.sI s1_ok _ _ _) _ _ _) (c := 69) (n := 1461) (by decide) rfl (by decide), okL_len (okL.sI (okL.sI s1_ok _ _ _) _ _ _) (c := 74) (n := 89) (by decide) rfl (by decide)]; rfl)) _ (by simp only [List.length_set])) (c := 69) (n := 1461) (by decide) rfl (by decide)) (okL_len (okL.sA (okL.sA (okL.sI (okL.sI s1_ok _ _ _) _ _ _) _ (by rw [List.length_take, okL_len (okL.sI (okL.sI s1_ok _ _ _) _ _ _) (c := 69) (n := 1461) (by decide) rfl (by decide), okL_len (okL.sI (okL.sI s1_ok _ _ _) _ _ _) (c := 74) (n := 89) (by decide) rfl (by decide)]; rfl)) _ (by simp only [List.length_set])) (c := 74) (n := 89) (by decide) rfl (by decide))
        refine rb_iload rfl ?_
        refine rb_ret rfl rfl
      case h3 => exact (okL.sI (okL.sA (okL.sA (okL.sA (okL.sI (okL.sI s1_ok _ _ _) _ _ _) _ (by rw [List.length_take, okL_len (okL.sI (okL.sI s1_ok _ _ _) _ _ _) (c := 69) (n := 1461) (by decide) rfl (by decide), okL_len (okL.sI (okL.sI s1_ok _ _ _) _ _ _) (c := 74) (n := 89) (by decide) rfl (by decide)]; rfl)) _ (by simp only [List.length_set])) _ (by rw [List.length_append, List.length_take, List.length_drop, okL_len (okL.sA (okL.sA (okL.sI (okL.sI s1_ok _ _ _) _ _ _) _ (by rw [List.length_take, okL_len (okL.sI (okL.sI s1_ok _ _ _) _ _ _) (c := 69) (n := 1461) (by decide) rfl (by decide), okL_len (okL.sI (okL.sI s1_ok _ _ _) _ _ _) (c := 74) (n := 89) (by decide) rfl (by decide)]; rfl)) _ (by simp only [List.length_set])) (c := 69) (n := 1461) (by decide) rfl (by decide), okL_len (okL.sA (okL.sA (okL.sI (okL.sI s1_ok _ _ _) _ _ _) _ (by rw [List.length_take, okL_len (okL.sI (okL.sI s1_ok _ _ _) _ _ _) (c := 69) (n := 1461) (by decide) rfl (by decide), okL_len (okL.sI (okL.sI s1_ok _ _ _) _ _ _) (c := 74) (n := 89) (by decide) rfl (by decide)]; rfl)) _ (by simp only [List.length_set])) (c := 74) (n := 89) (by decide) rfl (by decide)]; rfl)) _ _ _)
      case h4 => exact rfl
    ·
      rcases ia_cut (c := 2) hlb hhb with ⟨hlb, hhb⟩ | ⟨hlb, hhb⟩
      ·
        obtain rfl : b = 1 := ia_one hlb hhb (by decide) (by decide)
        obtain ⟨zx, dx, hx⟩ := c_passDays0 (d := 3) s1 isT24 ⟨rfl, rfl, rfl⟩ hn
        have ht := c_thinks (d := 6) (sI (sI s1 24 14 zx) 24 13 dx) (okL_len s1_ok (c := 69) (n := 1461) (by decide) rfl (by decide)) (okL_len s1_ok (c := 74) (n := 89) (by decide) rfl (by decide))
        obtain ⟨zm, dm, hm⟩ := c_goesOn0 (d := 3) (sA (sI (sI s1 24 14 zx) 24 13 dx) 74 (((sI (sI s1 24 14 zx) 24 13 dx).2.1 69).take 89)) (z := 1) (dd := 0) rfl rfl rfl rfl hn
        apply p1_intro (v := 0)
        case h1 =>
          apply ex_X8_behind
          refine rn_step rfl ?_
          refine rb_iload rfl ?_
          refine rb_push ?_
          refine rb_push ?_
          apply rb_callS3
          case hcl => exact rfl
          case hc =>
            apply ex_X8_within
            refine rn_step rfl ?_
            refine rb_iload rfl ?_
            refine rb_iload rfl ?_
            refine rb_clt (fun h => absurd h (ia_nlt hla (by decide))) (fun _ => ?_)
            refine rb_iload rfl ?_
            refine rb_iload rfl ?_
            refine rb_cgt (fun h => absurd h (ia_ngt hha (by decide))) (fun _ => ?_)
            refine rb_push ?_
            refine rb_goto ?_
            refine rn_step rfl ?_
            refine rb_ret rfl rfl
          refine rb_ieq (fun h => absurd h (by decide)) (fun _ => ?_)
          refine rb_iload rfl ?_
          refine rb_push ?_
          refine rb_push ?_
          apply rb_callS3
          case hcl => exact rfl
          case hc =>
            apply ex_X8_within
            refine rn_step rfl ?_
            refine rb_iload rfl ?_
            refine rb_iload rfl ?_
            refine rb_clt (fun h => absurd h (by decide)) (fun _ => ?_)
            refine rb_iload rfl ?_
            refine rb_iload rfl ?_
            refine rb_cgt (fun h => absurd h (by decide)) (fun _ => ?_)
            refine rb_push ?_
            refine rb_goto ?_
            refine rn_step rfl ?_
            refine rb_ret rfl rfl
          refine rb_ine (fun _ => ?_) (fun h => absurd (by decide) h)
          refine rn_step rfl ?_
          refine rb_aload rfl ?_
          refine rb_getf (v := .ref 23) rfl ?_
          refine rb_aload rfl ?_
          refine rb_getf (v := .ref 1) rfl ?_
          refine rb_iload rfl ?_
          apply rb_callV2
          case hb => exact rfl
          case hcl => exact rfl
          case hc =>
            apply ex_X7_behindDays
            refine rn_step rfl ?_
            refine rb_aload rfl ?_
            refine rb_getf (v := .ref 24) rfl ?_
            refine rb_aload rfl ?_
            apply rb_callV1v
            case hb => exact rfl
            case hcl => exact rfl
            case hc =>
              exact p1_become24
            refine rb_aload rfl ?_
            refine rb_getf (v := .ref 24) rfl ?_
            refine rb_iload rfl ?_
            apply rb_callV1v
            case hb => exact rfl
            case hcl => exact rfl
            case hc =>
              exact hx
            refine rb_aload rfl ?_
            refine rb_getf (v := .ref 24) rfl ?_
            refine rb_ret rfl rfl
          refine rb_astore (lv' := [some (.ref 0), some (.int (nI n)), some (.int 1), some (.ref 24)]) rfl ?_
          refine rb_iload rfl ?_
          refine rb_swL (n := 4) (by decide) ?_
          refine rn_step rfl ?_
          refine rb_aload rfl ?_
          apply rb_callV0
          case hb => exact rfl
          case hcl => exact rfl
          case hc =>
            apply ex_X4_matches
            refine rn_step rfl ?_
            refine rb_push ?_
            refine rb_istore (lv' := [some (.ref 24), some (.int 0), none, none]) rfl ?_
            refine rb_push ?_
            refine rb_istore (lv' := [some (.ref 24), some (.int 0), some (.int 0), none]) rfl ?_
            refine rb_goto ?_
            refine rn_step rfl ?_
            refine rb_iload rfl ?_
            refine rb_push ?_
            refine rb_binL (z := 1) (by decide) ?_
            refine rb_push ?_
            refine rb_cge (fun h => absurd h (by decide)) (fun _ => ?_)
            refine rb_iload rfl ?_
            refine rb_push ?_
            refine rb_binL (z := 1) (by decide) ?_
            refine rb_push ?_
            refine rb_divL (z := 1) (by decide) (by decide) ?_
            refine rb_ieq (fun h => absurd h (by decide)) (fun _ => ?_)
            refine rb_push ?_
            refine rb_goto ?_
            refine rn_step rfl ?_
            refine rb_istore (lv' := [some (.ref 24), some (.int 0), some (.int 0), some (.int 1)]) rfl ?_
            refine rb_iload rfl ?_
            refine rb_ieq (fun h => absurd h (by decide)) (fun _ => ?_)
            refine rb_aload rfl ?_
            refine rb_aload rfl ?_
            refine rb_getf (v := .ref 30) rfl ?_
            refine rb_iload rfl ?_
            refine rb_iald rfl (by decide) (show _ = some ((-1)) from rfl) ?_
            refine rb_aload rfl ?_
            refine rb_getf (v := .ref 30) rfl ?_
            refine rb_iload rfl ?_
            refine rb_push ?_
            refine rb_binL (z := 1) (by decide) ?_
            refine rb_iald rfl (by decide) (show _ = some ((-1)) from rfl) ?_
            apply rb_callV2
            case hb => exact rfl
            case hcl => exact rfl
            case hc =>
              apply ex_X4_meet
              refine rn_step rfl ?_
              refine rb_iload rfl ?_
              refine rb_push ?_
              refine rb_ceq (fun _ => ?_) (fun h => absurd (by decide) h)
              refine rn_step rfl ?_
              refine rb_push ?_
              refine rb_goto ?_
              refine rn_step rfl ?_
              refine rb_ret rfl rfl
            refine rb_ieq (fun _ => ?_) (fun h => absurd (by decide) h)
            refine rn_step rfl ?_
            refine rb_iinc (lv' := [some (.ref 24), some (.int 0), some (.int 1), some (.int 1)]) rfl rfl ?_
            refine rb_goto ?_
            refine rn_step rfl ?_
            refine rb_iload rfl ?_
            refine rb_push ?_
            refine rb_binL (z := 2) (by decide) ?_
            refine rb_push ?_
            refine rb_cge (fun h => absurd h (by decide)) (fun _ => ?_)
            refine rb_iload rfl ?_
            refine rb_push ?_
            refine rb_binL (z := 2) (by decide) ?_
            refine rb_push ?_
            refine rb_divL (z := 2) (by decide) (by decide) ?_
            refine rb_ieq (fun h => absurd h (by decide)) (fun _ => ?_)
            refine rb_push ?_
            refine rb_goto ?_
            refine rn_step rfl ?_
            refine rb_istore (lv' := [some (.ref 24), some (.int 0), some (.int 1), some (.int 1)]) rfl ?_
            refine rb_iload rfl ?_
            refine rb_ieq (fun h => absurd h (by decide)) (fun _ => ?_)
            refine rb_aload rfl ?_
            refine rb_aload rfl ?_
            refine rb_getf (v := .ref 30) rfl ?_
            refine rb_iload rfl ?_
            refine rb_iald rfl (by decide) (show _ = some ((-1)) from rfl) ?_
            refine rb_aload rfl ?_
            refine rb_getf (v := .ref 30) rfl ?_
            refine rb_iload rfl ?_
            refine rb_push ?_
            refine rb_binL (z := 2) (by decide) ?_
            refine rb_iald rfl (by decide) (show _ = some ((-1)) from rfl) ?_
            apply rb_callV2
            case hb => exact rfl
            case hcl => exact rfl
            case hc =>
              apply ex_X4_meet
              refine rn_step rfl ?_
              refine rb_iload rfl ?_
              refine rb_push ?_
              refine rb_ceq (fun _ => ?_) (fun h => absurd (by decide) h)
              refine rn_step rfl ?_
              refine rb_push ?_
              refine rb_goto ?_
              refine rn_step rfl ?_
              refine rb_ret rfl rfl
            refine rb_ieq (fun _ => ?_) (fun h => absurd (by decide) h)
            refine rn_step rfl ?_
            refine rb_iinc (lv' := [some (.ref 24), some (.int 0), some (.int 2), some (.int 1)]) rfl rfl ?_
            refine rb_goto ?_
            refine rn_step rfl ?_
            refine rb_iload rfl ?_
            refine rb_push ?_
            refine rb_binL (z := 3) (by decide) ?_
            refine rb_push ?_
            refine rb_cge (fun h => absurd h (by decide)) (fun _ => ?_)
            refine rb_iload rfl ?_
            refine rb_push ?_
            refine rb_binL (z := 3) (by decide) ?_
            refine rb_push ?_
            refine rb_divL (z := 0) (by decide) (by decide) ?_
            refine rb_ieq (fun _ => ?_) (fun h => absurd (by decide) h)
            refine rn_step rfl ?_
            refine rb_push ?_
            refine rb_goto ?_
            refine rn_step rfl ?_
            refine rb_istore (lv' := [some (.ref 24), some (.int 0), some (.int 2), some (.int 0)]) rfl ?_
            refine rb_iload rfl ?_
            refine rb_ieq (fun _ => ?_) (fun h => absurd (by decide) h)
            refine rn_step rfl ?_
            refine rb_iinc (lv' := [some (.ref 24), some (.int 0), some (.int 3), some (.int 0)]) rfl rfl ?_
            refine rb_goto ?_
            refine rn_step rfl ?_
            refine rb_iload rfl ?_
            refine rb_push ?_
            refine rb_binL (z := 4) (by decide) ?_
            refine rb_push ?_
            refine rb_cge (fun h => absurd h (by decide)) (fun _ => ?_)
            refine rb_iload rfl ?_
            refine rb_push ?_
            refine rb_binL (z := 4) (by decide) ?_
            refine rb_push ?_
            refine rb_divL (z := 1) (by decide) (by decide) ?_
            refine rb_ieq (fun h => absurd h (by decide)) (fun _ => ?_)
            refine rb_push ?_
            refine rb_goto ?_
            refine rn_step rfl ?_
            refine rb_istore (lv' := [some (.ref 24), some (.int 0), some (.int 3), some (.int 1)]) rfl ?_
            refine rb_iload rfl ?_
            refine rb_ieq (fun h => absurd h (by decide)) (fun _ => ?_)
            refine rb_aload rfl ?_
            refine rb_aload rfl ?_
            refine rb_getf (v := .ref 30) rfl ?_
            refine rb_iload rfl ?_
            refine rb_iald rfl (by decide) (show _ = some ((-1)) from rfl) ?_
            refine rb_aload rfl ?_
            refine rb_getf (v := .ref 30) rfl ?_
            refine rb_iload rfl ?_
            refine rb_push ?_
            refine rb_binL (z := 4) (by decide) ?_
            refine rb_iald rfl (by decide) (show _ = some ((-1)) from rfl) ?_
            apply rb_callV2
            case hb => exact rfl
            case hcl => exact rfl
            case hc =>
              apply ex_X4_meet
              refine rn_step rfl ?_
              refine rb_iload rfl ?_
              refine rb_push ?_
              refine rb_ceq (fun _ => ?_) (fun h => absurd (by decide) h)
              refine rn_step rfl ?_
              refine rb_push ?_
              refine rb_goto ?_
              refine rn_step rfl ?_
              refine rb_ret rfl rfl
            refine rb_ieq (fun _ => ?_) (fun h => absurd (by decide) h)
            refine rn_step rfl ?_
            refine rb_iinc (lv' := [some (.ref 24), some (.int 0), some (.int 4), some (.int 1)]) rfl rfl ?_
            refine rb_goto ?_
            refine rn_step rfl ?_
            refine rb_iload rfl ?_
            refine rb_push ?_
            refine rb_binL (z := 5) (by decide) ?_
            refine rb_push ?_
            refine rb_cge (fun h => absurd h (by decide)) (fun _ => ?_)
            refine rb_iload rfl ?_
            refine rb_push ?_
            refine rb_binL (z := 5) (by decide) ?_
            refine rb_push ?_
            refine rb_divL (z := 2) (by decide) (by decide) ?_
            refine rb_ieq (fun h => absurd h (by decide)) (fun _ => ?_)
            refine rb_push ?_
            refine rb_goto ?_
            refine rn_step rfl ?_
            refine rb_istore (lv' := [some (.ref 24), some (.int 0), some (.int 4), some (.int 1)]) rfl ?_
            refine rb_iload rfl ?_
            refine rb_ieq (fun h => absurd h (by decide)) (fun _ => ?_)
            refine rb_aload rfl ?_
            refine rb_aload rfl ?_
            refine rb_getf (v := .ref 30) rfl ?_
            refine rb_iload rfl ?_
            refine rb_iald rfl (by decide) (show _ = some ((-1)) from rfl) ?_
            refine rb_aload rfl ?_
            refine rb_getf (v := .ref 30) rfl ?_
            refine rb_iload rfl ?_
            refine rb_push ?_
            refine rb_binL (z := 5) (by decide) ?_
            refine rb_iald rfl (by decide) (show _ = some ((-1)) from rfl) ?_
            apply rb_callV2
            case hb => exact rfl
            case hcl => exact rfl
            case hc =>
              apply ex_X4_meet
              refine rn_step rfl ?_
              refine rb_iload rfl ?_
              refine rb_push ?_
              refine rb_ceq (fun _ => ?_) (fun h => absurd (by decide) h)
              refine rn_step rfl ?_
              refine rb_push ?_
              refine rb_goto ?_
              refine rn_step rfl ?_
              refine rb_ret rfl rfl
            refine rb_ieq (fun _ => ?_) (fun h => absurd (by decide) h)
            refine rn_step rfl ?_
            refine rb_iinc (lv' := [some (.ref 24), some (.int 0), some (.int 5), some (.int 1)]) rfl rfl ?_
            refine rb_goto ?_
            refine rn_step rfl ?_
            refine rb_iload rfl ?_
            refine rb_push ?_
            refine rb_binL (z := 6) (by decide) ?_
            refine rb_push ?_
            refine rb_cge (fun h => absurd h (by decide)) (fun _ => ?_)
            refine rb_iload rfl ?_
            refine rb_push ?_
            refine rb_binL (z := 6) (by decide) ?_
            refine rb_push ?_
            refine rb_divL (z := 0) (by decide) (by decide) ?_
            refine rb_ieq (fun _ => ?_) (fun h => absurd (by decide) h)
            refine rn_step rfl ?_
            refine rb_push ?_
            refine rb_goto ?_
            refine rn_step rfl ?_
            refine rb_istore (lv' := [some (.ref 24), some (.int 0), some (.int 5), some (.int 0)]) rfl ?_
            refine rb_iload rfl ?_
            refine rb_ieq (fun _ => ?_) (fun h => absurd (by decide) h)
            refine rn_step rfl ?_
            refine rb_iinc (lv' := [some (.ref 24), some (.int 0), some (.int 6), some (.int 0)]) rfl rfl ?_
            refine rb_goto ?_
            refine rn_step rfl ?_
            refine rb_iload rfl ?_
            refine rb_push ?_
            refine rb_binL (z := 7) (by decide) ?_
            refine rb_push ?_
            refine rb_cge (fun h => absurd h (by decide)) (fun _ => ?_)
            refine rb_iload rfl ?_
            refine rb_push ?_
            refine rb_binL (z := 7) (by decide) ?_
            refine rb_push ?_
            refine rb_divL (z := 1) (by decide) (by decide) ?_
            refine rb_ieq (fun h => absurd h (by decide)) (fun _ => ?_)
            refine rb_push ?_
            refine rb_goto ?_
            refine rn_step rfl ?_
            refine rb_istore (lv' := [some (.ref 24), some (.int 0), some (.int 6), some (.int 1)]) rfl ?_
            refine rb_iload rfl ?_
            refine rb_ieq (fun h => absurd h (by decide)) (fun _ => ?_)
            refine rb_aload rfl ?_
            refine rb_aload rfl ?_
            refine rb_getf (v := .ref 30) rfl ?_
            refine rb_iload rfl ?_
            refine rb_iald rfl (by decide) (show _ = some ((-1)) from rfl) ?_
            refine rb_aload rfl ?_
            refine rb_getf (v := .ref 30) rfl ?_
            refine rb_iload rfl ?_
            refine rb_push ?_
            refine rb_binL (z := 7) (by decide) ?_
            refine rb_iald rfl (by decide) (show _ = some ((-1)) from rfl) ?_
            apply rb_callV2
            case hb => exact rfl
            case hcl => exact rfl
            case hc =>
              apply ex_X4_meet
              refine rn_step rfl ?_
              refine rb_iload rfl ?_
              refine rb_push ?_
              refine rb_ceq (fun _ => ?_) (fun h => absurd (by decide) h)
              refine rn_step rfl ?_
              refine rb_push ?_
              refine rb_goto ?_
              refine rn_step rfl ?_
              refine rb_ret rfl rfl
            refine rb_ieq (fun _ => ?_) (fun h => absurd (by decide) h)
            refine rn_step rfl ?_
            refine rb_iinc (lv' := [some (.ref 24), some (.int 0), some (.int 7), some (.int 1)]) rfl rfl ?_
            refine rb_goto ?_
            refine rn_step rfl ?_
            refine rb_iload rfl ?_
            refine rb_push ?_
            refine rb_binL (z := 8) (by decide) ?_
            refine rb_push ?_
            refine rb_cge (fun h => absurd h (by decide)) (fun _ => ?_)
            refine rb_iload rfl ?_
            refine rb_push ?_
            refine rb_binL (z := 8) (by decide) ?_
            refine rb_push ?_
            refine rb_divL (z := 2) (by decide) (by decide) ?_
            refine rb_ieq (fun h => absurd h (by decide)) (fun _ => ?_)
            refine rb_push ?_
            refine rb_goto ?_
            refine rn_step rfl ?_
            refine rb_istore (lv' := [some (.ref 24), some (.int 0), some (.int 7), some (.int 1)]) rfl ?_
            refine rb_iload rfl ?_
            refine rb_ieq (fun h => absurd h (by decide)) (fun _ => ?_)
            refine rb_aload rfl ?_
            refine rb_aload rfl ?_
            refine rb_getf (v := .ref 30) rfl ?_
            refine rb_iload rfl ?_
            refine rb_iald rfl (by decide) (show _ = some ((-1)) from rfl) ?_
            refine rb_aload rfl ?_
            refine rb_getf (v := .ref 30) rfl ?_
            refine rb_iload rfl ?_
            refine rb_push ?_
            refine rb_binL (z := 8) (by decide) ?_
            refine rb_iald rfl (by decide) (show _ = some ((-1)) from rfl) ?_
            apply rb_callV2
            case hb => exact rfl
            case hcl => exact rfl
            case hc =>
              apply ex_X4_meet
              refine rn_step rfl ?_
              refine rb_iload rfl ?_
              refine rb_push ?_
              refine rb_ceq (fun _ => ?_) (fun h => absurd (by decide) h)
              refine rn_step rfl ?_
              refine rb_push ?_
              refine rb_goto ?_
              refine rn_step rfl ?_
              refine rb_ret rfl rfl
            refine rb_ieq (fun _ => ?_) (fun h => absurd (by decide) h)
            refine rn_step rfl ?_
            refine rb_iinc (lv' := [some (.ref 24), some (.int 0), some (.int 8), some (.int 1)]) rfl rfl ?_
            refine rb_goto ?_
            refine rn_step rfl ?_
            refine rb_iload rfl ?_
            refine rb_push ?_
            refine rb_binL (z := 9) (by decide) ?_
            refine rb_push ?_
            refine rb_cge (fun h => absurd h (by decide)) (fun _ => ?_)
            refine rb_iload rfl ?_
            refine rb_push ?_
            refine rb_binL (z := 9) (by decide) ?_
            refine rb_push ?_
            refine rb_divL (z := 0) (by decide) (by decide) ?_
            refine rb_ieq (fun _ => ?_) (fun h => absurd (by decide) h)
            refine rn_step rfl ?_
            refine rb_push ?_
            refine rb_goto ?_
            refine rn_step rfl ?_
            refine rb_istore (lv' := [some (.ref 24), some (.int 0), some (.int 8), some (.int 0)]) rfl ?_
            refine rb_iload rfl ?_
            refine rb_ieq (fun _ => ?_) (fun h => absurd (by decide) h)
            refine rn_step rfl ?_
            refine rb_iinc (lv' := [some (.ref 24), some (.int 0), some (.int 9), some (.int 0)]) rfl rfl ?_
            refine rb_goto ?_
            refine rn_step rfl ?_
            refine rb_iload rfl ?_
            refine rb_push ?_
            refine rb_binL (z := 10) (by decide) ?_
            refine rb_push ?_
            refine rb_cge (fun h => absurd h (by decide)) (fun _ => ?_)
            refine rb_iload rfl ?_
            refine rb_push ?_
            refine rb_binL (z := 10) (by decide) ?_
            refine rb_push ?_
            refine rb_divL (z := 1) (by decide) (by decide) ?_
            refine rb_ieq (fun h => absurd h (by decide)) (fun _ => ?_)
            refine rb_push ?_
            refine rb_goto ?_
            refine rn_step rfl ?_
            refine rb_istore (lv' := [some (.ref 24), some (.int 0), some (.int 9), some (.int 1)]) rfl ?_
            refine rb_iload rfl ?_
            refine rb_ieq (fun h => absurd h (by decide)) (fun _ => ?_)
            refine rb_aload rfl ?_
            refine rb_aload rfl ?_
            refine rb_getf (v := .ref 30) rfl ?_
            refine rb_iload rfl ?_
            refine rb_iald rfl (by decide) (show _ = some ((-1)) from rfl) ?_
            refine rb_aload rfl ?_
            refine rb_getf (v := .ref 30) rfl ?_
            refine rb_iload rfl ?_
            refine rb_push ?_
            refine rb_binL (z := 10) (by decide) ?_
            refine rb_iald rfl (by decide) (show _ = some ((-1)) from rfl) ?_
            apply rb_callV2
            case hb => exact rfl
            case hcl => exact rfl
            case hc =>
              apply ex_X4_meet
              refine rn_step rfl ?_
              refine rb_iload rfl ?_
              refine rb_push ?_
              refine rb_ceq (fun _ => ?_) (fun h => absurd (by decide) h)
              refine rn_step rfl ?_
              refine rb_push ?_
              refine rb_goto ?_
              refine rn_step rfl ?_
              refine rb_ret rfl rfl
            refine rb_ieq (fun _ => ?_) (fun h => absurd (by decide) h)
            refine rn_step rfl ?_
            refine rb_iinc (lv' := [some (.ref 24), some (.int 0), some (.int 10), some (.int 1)]) rfl rfl ?_
            refine rb_goto ?_
            refine rn_step rfl ?_
            refine rb_iload rfl ?_
            refine rb_push ?_
            refine rb_binL (z := 11) (by decide) ?_
            refine rb_push ?_
            refine rb_cge (fun h => absurd h (by decide)) (fun _ => ?_)
            refine rb_iload rfl ?_
            refine rb_push ?_
            refine rb_binL (z := 11) (by decide) ?_
            refine rb_push ?_
            refine rb_divL (z := 2) (by decide) (by decide) ?_
            refine rb_ieq (fun h => absurd h (by decide)) (fun _ => ?_)
            refine rb_push ?_
            refine rb_goto ?_
            refine rn_step rfl ?_
            refine rb_istore (lv' := [some (.ref 24), some (.int 0), some (.int 10), some (.int 1)]) rfl ?_
            refine rb_iload rfl ?_
            refine rb_ieq (fun h => absurd h (by decide)) (fun _ => ?_)
            refine rb_aload rfl ?_
            refine rb_aload rfl ?_
            refine rb_getf (v := .ref 30) rfl ?_
            refine rb_iload rfl ?_
            refine rb_iald rfl (by decide) (show _ = some ((-1)) from rfl) ?_
            refine rb_aload rfl ?_
            refine rb_getf (v := .ref 30) rfl ?_
            refine rb_iload rfl ?_
            refine rb_push ?_
            refine rb_binL (z := 11) (by decide) ?_
            refine rb_iald rfl (by decide) (show _ = some ((-1)) from rfl) ?_
            apply rb_callV2
            case hb => exact rfl
            case hcl => exact rfl
            case hc =>
              apply ex_X4_meet
              refine rn_step rfl ?_
              refine rb_iload rfl ?_
              refine rb_push ?_
              refine rb_ceq (fun _ => ?_) (fun h => absurd (by decide) h)
              refine rn_step rfl ?_
              refine rb_push ?_
              refine rb_goto ?_
              refine rn_step rfl ?_
              refine rb_ret rfl rfl
            refine rb_ieq (fun _ => ?_) (fun h => absurd (by decide) h)
            refine rn_step rfl ?_
            refine rb_iinc (lv' := [some (.ref 24), some (.int 0), some (.int 11), some (.int 1)]) rfl rfl ?_
            refine rb_goto ?_
            refine rn_step rfl ?_
            refine rb_iload rfl ?_
            refine rb_push ?_
            refine rb_binL (z := 12) (by decide) ?_
            refine rb_push ?_
            refine rb_cge (fun _ => ?_) (fun h => absurd (by decide) h)
            refine rn_step rfl ?_
            refine rb_iload rfl ?_
            refine rb_ret rfl rfl
          refine rb_ret rfl rfl
        case h2 =>
          apply ex_X9_behind
          refine rn_step rfl ?_
          refine rb_iload rfl ?_
          refine rb_push ?_
          refine rb_push ?_
          apply rb_callS3
          case hcl => exact rfl
          case hc =>
            apply ex_X9_in
            refine rn_step rfl ?_
            refine rb_iload rfl ?_
            refine rb_iload rfl ?_
            refine rb_clt (fun h => absurd h (ia_nlt hla (by decide))) (fun _ => ?_)
            refine rb_iload rfl ?_
            refine rb_iload rfl ?_
            refine rb_cgt (fun h => absurd h (ia_ngt hha (by decide))) (fun _ => ?_)
            refine rb_push ?_
            refine rb_goto ?_
            refine rn_step rfl ?_
            refine rb_ret rfl rfl
          refine rb_ieq (fun h => absurd h (by decide)) (fun _ => ?_)
          refine rb_iload rfl ?_
          refine rb_push ?_
          refine rb_push ?_
          apply rb_callS3
          case hcl => exact rfl
          case hc =>
            apply ex_X9_in
            refine rn_step rfl ?_
            refine rb_iload rfl ?_
            refine rb_iload rfl ?_
            refine rb_clt (fun h => absurd h (by decide)) (fun _ => ?_)
            refine rb_iload rfl ?_
            refine rb_iload rfl ?_
            refine rb_cgt (fun h => absurd h (by decide)) (fun _ => ?_)
            refine rb_push ?_
            refine rb_goto ?_
            refine rn_step rfl ?_
            refine rb_ret rfl rfl
          refine rb_ine (fun _ => ?_) (fun h => absurd (by decide) h)
          refine rn_step rfl ?_
          refine rb_aload rfl ?_
          apply rb_callV0v
          case hb => exact rfl
          case hcl => exact rfl
          case hc =>
            exact ht
          refine rb_aload rfl ?_
          refine rb_iload rfl ?_
          apply rb_callV1v
          case hb => exact rfl
          case hcl => exact rfl
          case hc =>
            exact hm
          refine rb_iload rfl ?_
          refine rb_push ?_
          refine rb_cle (fun _ => ?_) (fun h => absurd (by decide) h)
          refine rn_step rfl ?_
          refine rb_aload rfl ?_
          refine rb_iload rfl ?_
          apply rb_callV1
          case hb => exact rfl
          case hcl => exact rfl
          case hc =>
            apply ex_X9_king
            refine rn_step rfl ?_
            refine rb_iload rfl ?_
            refine rb_swL (n := 2) (by decide) ?_
            refine rn_step rfl ?_
            refine rb_aload rfl ?_
            apply rb_callV0
            case hb => exact rfl
            case hcl => exact rfl
            case hc =>
              apply ex_X9_matches
              refine rn_step rfl ?_
              refine rb_push ?_
              refine rb_istore (lv' := [some (.ref 68), some (.int 0), none, none, none]) rfl ?_
              refine rb_push ?_
              refine rb_istore (lv' := [some (.ref 68), some (.int 0), some (.int 0), none, none]) rfl ?_
              refine rb_goto ?_
              refine rn_step rfl ?_
              refine rb_iload rfl ?_
              refine rb_push ?_
              refine rb_cge (fun h => absurd h (by decide)) (fun _ => ?_)
              refine rb_aload rfl ?_
              refine rb_iload rfl ?_
              apply rb_callV1
              case hb => exact rfl
              case hcl => exact rfl
              case hc =>
                apply ex_X9_holder
                refine rn_step rfl ?_
                refine rb_push ?_
                refine rb_istore (lv' := [some (.ref 68), some (.int 0), some (.int (-1)), none]) rfl ?_
                refine rb_push ?_
                refine rb_istore (lv' := [some (.ref 68), some (.int 0), some (.int (-1)), some (.int 0)]) rfl ?_
                refine rb_goto ?_
                refine rn_step rfl ?_
                refine rb_iload rfl ?_
                refine rb_aload rfl ?_
                refine rb_getf (v := .ref 69) rfl ?_
                refine rb_push ?_
                refine rb_iald rfl (by decide) (show _ = some (0) from rfl) ?_
                refine rb_cge (fun _ => ?_) (fun h => absurd (by decide) h)
                refine rn_step rfl ?_
                refine rb_iload rfl ?_
                refine rb_ret rfl rfl
              refine rb_istore (lv' := [some (.ref 68), some (.int 0), some (.int 0), some (.int (-1)), none]) rfl ?_
              refine rb_aload rfl ?_
              refine rb_iload rfl ?_
              refine rb_push ?_
              refine rb_binL (z := 1) (by decide) ?_
              apply rb_callV1
              case hb => exact rfl
              case hcl => exact rfl
              case hc =>
                apply ex_X9_holder
                refine rn_step rfl ?_
                refine rb_push ?_
                refine rb_istore (lv' := [some (.ref 68), some (.int 1), some (.int (-1)), none]) rfl ?_
                refine rb_push ?_
                refine rb_istore (lv' := [some (.ref 68), some (.int 1), some (.int (-1)), some (.int 0)]) rfl ?_
                refine rb_goto ?_
                refine rn_step rfl ?_
                refine rb_iload rfl ?_
                refine rb_aload rfl ?_
                refine rb_getf (v := .ref 69) rfl ?_
                refine rb_push ?_
                refine rb_iald rfl (by decide) (show _ = some (0) from rfl) ?_
                refine rb_cge (fun _ => ?_) (fun h => absurd (by decide) h)
                refine rn_step rfl ?_
                refine rb_iload rfl ?_
                refine rb_ret rfl rfl
              refine rb_istore (lv' := [some (.ref 68), some (.int 0), some (.int 0), some (.int (-1)), some (.int (-1))]) rfl ?_
              refine rb_iload rfl ?_
              refine rb_push ?_
              refine rb_divL (z := 0) (by decide) (by decide) ?_
              refine rb_push ?_
              refine rb_cge (fun h => absurd h (by decide)) (fun _ => ?_)
              refine rb_iload rfl ?_
              refine rb_ilt (fun _ => ?_) (fun h => absurd (by decide) h)
              refine rn_step rfl ?_
              refine rb_iinc (lv' := [some (.ref 68), some (.int 0), some (.int 1), some (.int (-1)), some (.int (-1))]) rfl rfl ?_
              refine rb_goto ?_
              refine rn_step rfl ?_
              refine rb_iload rfl ?_
              refine rb_push ?_
              refine rb_cge (fun h => absurd h (by decide)) (fun _ => ?_)
              refine rb_aload rfl ?_
              refine rb_iload rfl ?_
              apply rb_callV1
              case hb => exact rfl
              case hcl => exact rfl
              case hc =>
                apply ex_X9_holder
                refine rn_step rfl ?_
                refine rb_push ?_
                refine rb_istore (lv' := [some (.ref 68), some (.int 1), some (.int (-1)), none]) rfl ?_
                refine rb_push ?_
                refine rb_istore (lv' := [some (.ref 68), some (.int 1), some (.int (-1)), some (.int 0)]) rfl ?_
                refine rb_goto ?_
                refine rn_step rfl ?_
                refine rb_iload rfl ?_
                refine rb_aload rfl ?_
                refine rb_getf (v := .ref 69) rfl ?_
                refine rb_push ?_
                refine rb_iald rfl (by decide) (show _ = some (0) from rfl) ?_
                refine rb_cge (fun _ => ?_) (fun h => absurd (by decide) h)
                refine rn_step rfl ?_
                refine rb_iload rfl ?_
                refine rb_ret rfl rfl
              refine rb_istore (lv' := [some (.ref 68), some (.int 0), some (.int 1), some (.int (-1)), some (.int (-1))]) rfl ?_
              refine rb_aload rfl ?_
              refine rb_iload rfl ?_
              refine rb_push ?_
              refine rb_binL (z := 2) (by decide) ?_
              apply rb_callV1
              case hb => exact rfl
              case hcl => exact rfl
              case hc =>
                apply ex_X9_holder
                refine rn_step rfl ?_
                refine rb_push ?_
                refine rb_istore (lv' := [some (.ref 68), some (.int 2), some (.int (-1)), none]) rfl ?_
                refine rb_push ?_
                refine rb_istore (lv' := [some (.ref 68), some (.int 2), some (.int (-1)), some (.int 0)]) rfl ?_
                refine rb_goto ?_
                refine rn_step rfl ?_
                refine rb_iload rfl ?_
                refine rb_aload rfl ?_
                refine rb_getf (v := .ref 69) rfl ?_
                refine rb_push ?_
                refine rb_iald rfl (by decide) (show _ = some (0) from rfl) ?_
                refine rb_cge (fun _ => ?_) (fun h => absurd (by decide) h)
                refine rn_step rfl ?_
                refine rb_iload rfl ?_
                refine rb_ret rfl rfl
              refine rb_istore (lv' := [some (.ref 68), some (.int 0), some (.int 1), some (.int (-1)), some (.int (-1))]) rfl ?_
              refine rb_iload rfl ?_
              refine rb_push ?_
              refine rb_divL (z := 1) (by decide) (by decide) ?_
              refine rb_push ?_
              refine rb_cge (fun h => absurd h (by decide)) (fun _ => ?_)
              refine rb_iload rfl ?_
              refine rb_ilt (fun _ => ?_) (fun h => absurd (by decide) h)
              refine rn_step rfl ?_
              refine rb_iinc (lv' := [some (.ref 68), some (.int 0), some (.int 2), some (.int (-1)), some (.int (-1))]) rfl rfl ?_
              refine rb_goto ?_
              refine rn_step rfl ?_
              refine rb_iload rfl ?_
              refine rb_push ?_
              refine rb_cge (fun h => absurd h (by decide)) (fun _ => ?_)
              refine rb_aload rfl ?_
              refine rb_iload rfl ?_
              apply rb_callV1
              case hb => exact rfl
              case hcl => exact rfl
              case hc =>
                apply ex_X9_holder
                refine rn_step rfl ?_
                refine rb_push ?_
                refine rb_istore (lv' := [some (.ref 68), some (.int 2), some (.int (-1)), none]) rfl ?_
                refine rb_push ?_
                refine rb_istore (lv' := [some (.ref 68), some (.int 2), some (.int (-1)), some (.int 0)]) rfl ?_
                refine rb_goto ?_
                refine rn_step rfl ?_
                refine rb_iload rfl ?_
                refine rb_aload rfl ?_
                refine rb_getf (v := .ref 69) rfl ?_
                refine rb_push ?_
                refine rb_iald rfl (by decide) (show _ = some (0) from rfl) ?_
                refine rb_cge (fun _ => ?_) (fun h => absurd (by decide) h)
                refine rn_step rfl ?_
                refine rb_iload rfl ?_
                refine rb_ret rfl rfl
              refine rb_istore (lv' := [some (.ref 68), some (.int 0), some (.int 2), some (.int (-1)), some (.int (-1))]) rfl ?_
              refine rb_aload rfl ?_
              refine rb_iload rfl ?_
              refine rb_push ?_
              refine rb_binL (z := 3) (by decide) ?_
              apply rb_callV1
              case hb => exact rfl
              case hcl => exact rfl
              case hc =>
                apply ex_X9_holder
                refine rn_step rfl ?_
                refine rb_push ?_
                refine rb_istore (lv' := [some (.ref 68), some (.int 3), some (.int (-1)), none]) rfl ?_
                refine rb_push ?_
                refine rb_istore (lv' := [some (.ref 68), some (.int 3), some (.int (-1)), some (.int 0)]) rfl ?_
                refine rb_goto ?_
                refine rn_step rfl ?_
                refine rb_iload rfl ?_
                refine rb_aload rfl ?_
                refine rb_getf (v := .ref 69) rfl ?_
                refine rb_push ?_
                refine rb_iald rfl (by decide) (show _ = some (0) from rfl) ?_
                refine rb_cge (fun _ => ?_) (fun h => absurd (by decide) h)
                refine rn_step rfl ?_
                refine rb_iload rfl ?_
                refine rb_ret rfl rfl
              refine rb_istore (lv' := [some (.ref 68), some (.int 0), some (.int 2), some (.int (-1)), some (.int (-1))]) rfl ?_
              refine rb_iload rfl ?_
              refine rb_push ?_
              refine rb_divL (z := 2) (by decide) (by decide) ?_
              refine rb_push ?_
              refine rb_cge (fun _ => ?_) (fun h => absurd (by decide) h)
              refine rn_step rfl ?_
              refine rb_iinc (lv' := [some (.ref 68), some (.int 0), some (.int 3), some (.int (-1)), some (.int (-1))]) rfl rfl ?_
              refine rb_goto ?_
              refine rn_step rfl ?_
              refine rb_iload rfl ?_
              refine rb_push ?_
              refine rb_cge (fun h => absurd h (by decide)) (fun _ => ?_)
              refine rb_aload rfl ?_
              refine rb_iload rfl ?_
              apply rb_callV1
              case hb => exact rfl
              case hcl => exact rfl
              case hc =>
                apply ex_X9_holder
                refine rn_step rfl ?_
                refine rb_push ?_
                refine rb_istore (lv' := [some (.ref 68), some (.int 3), some (.int (-1)), none]) rfl ?_
                refine rb_push ?_
                refine rb_istore (lv' := [some (.ref 68), some (.int 3), some (.int (-1)), some (.int 0)]) rfl ?_
                refine rb_goto ?_
                refine rn_step rfl ?_
                refine rb_iload rfl ?_
                refine rb_aload rfl ?_
                refine rb_getf (v := .ref 69) rfl ?_
                refine rb_push ?_
                refine rb_iald rfl (by decide) (show _ = some (0) from rfl) ?_
                refine rb_cge (fun _ => ?_) (fun h => absurd (by decide) h)
                refine rn_step rfl ?_
                refine rb_iload rfl ?_
                refine rb_ret rfl rfl
              refine rb_istore (lv' := [some (.ref 68), some (.int 0), some (.int 3), some (.int (-1)), some (.int (-1))]) rfl ?_
              refine rb_aload rfl ?_
              refine rb_iload rfl ?_
              refine rb_push ?_
              refine rb_binL (z := 4) (by decide) ?_
              apply rb_callV1
              case hb => exact rfl
              case hcl => exact rfl
              case hc =>
                apply ex_X9_holder
                refine rn_step rfl ?_
                refine rb_push ?_
                refine rb_istore (lv' := [some (.ref 68), some (.int 4), some (.int (-1)), none]) rfl ?_
                refine rb_push ?_
                refine rb_istore (lv' := [some (.ref 68), some (.int 4), some (.int (-1)), some (.int 0)]) rfl ?_
                refine rb_goto ?_
                refine rn_step rfl ?_
                refine rb_iload rfl ?_
                refine rb_aload rfl ?_
                refine rb_getf (v := .ref 69) rfl ?_
                refine rb_push ?_
                refine rb_iald rfl (by decide) (show _ = some (0) from rfl) ?_
                refine rb_cge (fun _ => ?_) (fun h => absurd (by decide) h)
                refine rn_step rfl ?_
                refine rb_iload rfl ?_
                refine rb_ret rfl rfl
              refine rb_istore (lv' := [some (.ref 68), some (.int 0), some (.int 3), some (.int (-1)), some (.int (-1))]) rfl ?_
              refine rb_iload rfl ?_
              refine rb_push ?_
              refine rb_divL (z := 0) (by decide) (by decide) ?_
              refine rb_push ?_
              refine rb_cge (fun h => absurd h (by decide)) (fun _ => ?_)
              refine rb_iload rfl ?_
              refine rb_ilt (fun _ => ?_) (fun h => absurd (by decide) h)
              refine rn_step rfl ?_
              refine rb_iinc (lv' := [some (.ref 68), some (.int 0), some (.int 4), some (.int (-1)), some (.int (-1))]) rfl rfl ?_
              refine rb_goto ?_
              refine rn_step rfl ?_
              refine rb_iload rfl ?_
              refine rb_push ?_
              refine rb_cge (fun h => absurd h (by decide)) (fun _ => ?_)
              refine rb_aload rfl ?_
              refine rb_iload rfl ?_
              apply rb_callV1
              case hb => exact rfl
              case hcl => exact rfl
              case hc =>
                apply ex_X9_holder
                refine rn_step rfl ?_
                refine rb_push ?_
                refine rb_istore (lv' := [some (.ref 68), some (.int 4), some (.int (-1)), none]) rfl ?_
                refine rb_push ?_
                refine rb_istore (lv' := [some (.ref 68), some (.int 4), some (.int (-1)), some (.int 0)]) rfl ?_
                refine rb_goto ?_
                refine rn_step rfl ?_
                refine rb_iload rfl ?_
                refine rb_aload rfl ?_
                refine rb_getf (v := .ref 69) rfl ?_
                refine rb_push ?_
                refine rb_iald rfl (by decide) (show _ = some (0) from rfl) ?_
                refine rb_cge (fun _ => ?_) (fun h => absurd (by decide) h)
                refine rn_step rfl ?_
                refine rb_iload rfl ?_
                refine rb_ret rfl rfl
              refine rb_istore (lv' := [some (.ref 68), some (.int 0), some (.int 4), some (.int (-1)), some (.int (-1))]) rfl ?_
              refine rb_aload rfl ?_
              refine rb_iload rfl ?_
              refine rb_push ?_
              refine rb_binL (z := 5) (by decide) ?_
              apply rb_callV1
              case hb => exact rfl
              case hcl => exact rfl
              case hc =>
                apply ex_X9_holder
                refine rn_step rfl ?_
                refine rb_push ?_
                refine rb_istore (lv' := [some (.ref 68), some (.int 5), some (.int (-1)), none]) rfl ?_
                refine rb_push ?_
                refine rb_istore (lv' := [some (.ref 68), some (.int 5), some (.int (-1)), some (.int 0)]) rfl ?_
                refine rb_goto ?_
                refine rn_step rfl ?_
                refine rb_iload rfl ?_
                refine rb_aload rfl ?_
                refine rb_getf (v := .ref 69) rfl ?_
                refine rb_push ?_
                refine rb_iald rfl (by decide) (show _ = some (0) from rfl) ?_
                refine rb_cge (fun _ => ?_) (fun h => absurd (by decide) h)
                refine rn_step rfl ?_
                refine rb_iload rfl ?_
                refine rb_ret rfl rfl
              refine rb_istore (lv' := [some (.ref 68), some (.int 0), some (.int 4), some (.int (-1)), some (.int (-1))]) rfl ?_
              refine rb_iload rfl ?_
              refine rb_push ?_
              refine rb_divL (z := 1) (by decide) (by decide) ?_
              refine rb_push ?_
              refine rb_cge (fun h => absurd h (by decide)) (fun _ => ?_)
              refine rb_iload rfl ?_
              refine rb_ilt (fun _ => ?_) (fun h => absurd (by decide) h)
              refine rn_step rfl ?_
              refine rb_iinc (lv' := [some (.ref 68), some (.int 0), some (.int 5), some (.int (-1)), some (.int (-1))]) rfl rfl ?_
              refine rb_goto ?_
              refine rn_step rfl ?_
              refine rb_iload rfl ?_
              refine rb_push ?_
              refine rb_cge (fun h => absurd h (by decide)) (fun _ => ?_)
              refine rb_aload rfl ?_
              refine rb_iload rfl ?_
              apply rb_callV1
              case hb => exact rfl
              case hcl => exact rfl
              case hc =>
                apply ex_X9_holder
                refine rn_step rfl ?_
                refine rb_push ?_
                refine rb_istore (lv' := [some (.ref 68), some (.int 5), some (.int (-1)), none]) rfl ?_
                refine rb_push ?_
                refine rb_istore (lv' := [some (.ref 68), some (.int 5), some (.int (-1)), some (.int 0)]) rfl ?_
                refine rb_goto ?_
                refine rn_step rfl ?_
                refine rb_iload rfl ?_
                refine rb_aload rfl ?_
                refine rb_getf (v := .ref 69) rfl ?_
                refine rb_push ?_
                refine rb_iald rfl (by decide) (show _ = some (0) from rfl) ?_
                refine rb_cge (fun _ => ?_) (fun h => absurd (by decide) h)
                refine rn_step rfl ?_
                refine rb_iload rfl ?_
                refine rb_ret rfl rfl
              refine rb_istore (lv' := [some (.ref 68), some (.int 0), some (.int 5), some (.int (-1)), some (.int (-1))]) rfl ?_
              refine rb_aload rfl ?_
              refine rb_iload rfl ?_
              refine rb_push ?_
              refine rb_binL (z := 6) (by decide) ?_
              apply rb_callV1
              case hb => exact rfl
              case hcl => exact rfl
              case hc =>
                apply ex_X9_holder
                refine rn_step rfl ?_
                refine rb_push ?_
                refine rb_istore (lv' := [some (.ref 68), some (.int 6), some (.int (-1)), none]) rfl ?_
                refine rb_push ?_
                refine rb_istore (lv' := [some (.ref 68), some (.int 6), some (.int (-1)), some (.int 0)]) rfl ?_
                refine rb_goto ?_
                refine rn_step rfl ?_
                refine rb_iload rfl ?_
                refine rb_aload rfl ?_
                refine rb_getf (v := .ref 69) rfl ?_
                refine rb_push ?_
                refine rb_iald rfl (by decide) (show _ = some (0) from rfl) ?_
                refine rb_cge (fun _ => ?_) (fun h => absurd (by decide) h)
                refine rn_step rfl ?_
                refine rb_iload rfl ?_
                refine rb_ret rfl rfl
              refine rb_istore (lv' := [some (.ref 68), some (.int 0), some (.int 5), some (.int (-1)), some (.int (-1))]) rfl ?_
              refine rb_iload rfl ?_
              refine rb_push ?_
              refine rb_divL (z := 2) (by decide) (by decide) ?_
              refine rb_push ?_
              refine rb_cge (fun _ => ?_) (fun h => absurd (by decide) h)
              refine rn_step rfl ?_
              refine rb_iinc (lv' := [some (.ref 68), some (.int 0), some (.int 6), some (.int (-1)), some (.int (-1))]) rfl rfl ?_
              refine rb_goto ?_
              refine rn_step rfl ?_
              refine rb_iload rfl ?_
              refine rb_push ?_
              refine rb_cge (fun h => absurd h (by decide)) (fun _ => ?_)
              refine rb_aload rfl ?_
              refine rb_iload rfl ?_
              apply rb_callV1
              case hb => exact rfl
              case hcl => exact rfl
              case hc =>
                apply ex_X9_holder
                refine rn_step rfl ?_
                refine rb_push ?_
                refine rb_istore (lv' := [some (.ref 68), some (.int 6), some (.int (-1)), none]) rfl ?_
                refine rb_push ?_
                refine rb_istore (lv' := [some (.ref 68), some (.int 6), some (.int (-1)), some (.int 0)]) rfl ?_
                refine rb_goto ?_
                refine rn_step rfl ?_
                refine rb_iload rfl ?_
                refine rb_aload rfl ?_
                refine rb_getf (v := .ref 69) rfl ?_
                refine rb_push ?_
                refine rb_iald rfl (by decide) (show _ = some (0) from rfl) ?_
                refine rb_cge (fun _ => ?_) (fun h => absurd (by decide) h)
                refine rn_step rfl ?_
                refine rb_iload rfl ?_
                refine rb_ret rfl rfl
              refine rb_istore (lv' := [some (.ref 68), some (.int 0), some (.int 6), some (.int (-1)), some (.int (-1))]) rfl ?_
              refine rb_aload rfl ?_
              refine rb_iload rfl ?_
              refine rb_push ?_
              refine rb_binL (z := 7) (by decide) ?_
              apply rb_callV1
              case hb => exact rfl
              case hcl => exact rfl
              case hc =>
                apply ex_X9_holder
                refine rn_step rfl ?_
                refine rb_push ?_
                refine rb_istore (lv' := [some (.ref 68), some (.int 7), some (.int (-1)), none]) rfl ?_
                refine rb_push ?_
                refine rb_istore (lv' := [some (.ref 68), some (.int 7), some (.int (-1)), some (.int 0)]) rfl ?_
                refine rb_goto ?_
                refine rn_step rfl ?_
                refine rb_iload rfl ?_
                refine rb_aload rfl ?_
                refine rb_getf (v := .ref 69) rfl ?_
                refine rb_push ?_
                refine rb_iald rfl (by decide) (show _ = some (0) from rfl) ?_
                refine rb_cge (fun _ => ?_) (fun h => absurd (by decide) h)
                refine rn_step rfl ?_
                refine rb_iload rfl ?_
                refine rb_ret rfl rfl
              refine rb_istore (lv' := [some (.ref 68), some (.int 0), some (.int 6), some (.int (-1)), some (.int (-1))]) rfl ?_
              refine rb_iload rfl ?_
              refine rb_push ?_
              refine rb_divL (z := 0) (by decide) (by decide) ?_
              refine rb_push ?_
              refine rb_cge (fun h => absurd h (by decide)) (fun _ => ?_)
              refine rb_iload rfl ?_
              refine rb_ilt (fun _ => ?_) (fun h => absurd (by decide) h)
              refine rn_step rfl ?_
              refine rb_iinc (lv' := [some (.ref 68), some (.int 0), some (.int 7), some (.int (-1)), some (.int (-1))]) rfl rfl ?_
              refine rb_goto ?_
              refine rn_step rfl ?_
              refine rb_iload rfl ?_
              refine rb_push ?_
              refine rb_cge (fun h => absurd h (by decide)) (fun _ => ?_)
              refine rb_aload rfl ?_
              refine rb_iload rfl ?_
              apply rb_callV1
              case hb => exact rfl
              case hcl => exact rfl
              case hc =>
                apply ex_X9_holder
                refine rn_step rfl ?_
                refine rb_push ?_
                refine rb_istore (lv' := [some (.ref 68), some (.int 7), some (.int (-1)), none]) rfl ?_
                refine rb_push ?_
                refine rb_istore (lv' := [some (.ref 68), some (.int 7), some (.int (-1)), some (.int 0)]) rfl ?_
                refine rb_goto ?_
                refine rn_step rfl ?_
                refine rb_iload rfl ?_
                refine rb_aload rfl ?_
                refine rb_getf (v := .ref 69) rfl ?_
                refine rb_push ?_
                refine rb_iald rfl (by decide) (show _ = some (0) from rfl) ?_
                refine rb_cge (fun _ => ?_) (fun h => absurd (by decide) h)
                refine rn_step rfl ?_
                refine rb_iload rfl ?_
                refine rb_ret rfl rfl
              refine rb_istore (lv' := [some (.ref 68), some (.int 0), some (.int 7), some (.int (-1)), some (.int (-1))]) rfl ?_
              refine rb_aload rfl ?_
              refine rb_iload rfl ?_
              refine rb_push ?_
              refine rb_binL (z := 8) (by decide) ?_
              apply rb_callV1
              case hb => exact rfl
              case hcl => exact rfl
              case hc =>
                apply ex_X9_holder
                refine rn_step rfl ?_
                refine rb_push ?_
                refine rb_istore (lv' := [some (.ref 68), some (.int 8), some (.int (-1)), none]) rfl ?_
                refine rb_push ?_
                refine rb_istore (lv' := [some (.ref 68), some (.int 8), some (.int (-1)), some (.int 0)]) rfl ?_
                refine rb_goto ?_
                refine rn_step rfl ?_
                refine rb_iload rfl ?_
                refine rb_aload rfl ?_
                refine rb_getf (v := .ref 69) rfl ?_
                refine rb_push ?_
                refine rb_iald rfl (by decide) (show _ = some (0) from rfl) ?_
                refine rb_cge (fun _ => ?_) (fun h => absurd (by decide) h)
                refine rn_step rfl ?_
                refine rb_iload rfl ?_
                refine rb_ret rfl rfl
              refine rb_istore (lv' := [some (.ref 68), some (.int 0), some (.int 7), some (.int (-1)), some (.int (-1))]) rfl ?_
              refine rb_iload rfl ?_
              refine rb_push ?_
              refine rb_divL (z := 1) (by decide) (by decide) ?_
              refine rb_push ?_
              refine rb_cge (fun h => absurd h (by decide)) (fun _ => ?_)
              refine rb_iload rfl ?_
              refine rb_ilt (fun _ => ?_) (fun h => absurd (by decide) h)
              refine rn_step rfl ?_
              refine rb_iinc (lv' := [some (.ref 68), some (.int 0), some (.int 8), some (.int (-1)), some (.int (-1))]) rfl rfl ?_
              refine rb_goto ?_
              refine rn_step rfl ?_
              refine rb_iload rfl ?_
              refine rb_push ?_
              refine rb_cge (fun h => absurd h (by decide)) (fun _ => ?_)
              refine rb_aload rfl ?_
              refine rb_iload rfl ?_
              apply rb_callV1
              case hb => exact rfl
              case hcl => exact rfl
              case hc =>
                apply ex_X9_holder
                refine rn_step rfl ?_
                refine rb_push ?_
                refine rb_istore (lv' := [some (.ref 68), some (.int 8), some (.int (-1)), none]) rfl ?_
                refine rb_push ?_
                refine rb_istore (lv' := [some (.ref 68), some (.int 8), some (.int (-1)), some (.int 0)]) rfl ?_
                refine rb_goto ?_
                refine rn_step rfl ?_
                refine rb_iload rfl ?_
                refine rb_aload rfl ?_
                refine rb_getf (v := .ref 69) rfl ?_
                refine rb_push ?_
                refine rb_iald rfl (by decide) (show _ = some (0) from rfl) ?_
                refine rb_cge (fun _ => ?_) (fun h => absurd (by decide) h)
                refine rn_step rfl ?_
                refine rb_iload rfl ?_
                refine rb_ret rfl rfl
              refine rb_istore (lv' := [some (.ref 68), some (.int 0), some (.int 8), some (.int (-1)), some (.int (-1))]) rfl ?_
              refine rb_aload rfl ?_
              refine rb_iload rfl ?_
              refine rb_push ?_
              refine rb_binL (z := 9) (by decide) ?_
              apply rb_callV1
              case hb => exact rfl
              case hcl => exact rfl
              case hc =>
                apply ex_X9_holder
                refine rn_step rfl ?_
                refine rb_push ?_
                refine rb_istore (lv' := [some (.ref 68), some (.int 9), some (.int (-1)), none]) rfl ?_
                refine rb_push ?_
                refine rb_istore (lv' := [some (.ref 68), some (.int 9), some (.int (-1)), some (.int 0)]) rfl ?_
                refine rb_goto ?_
                refine rn_step rfl ?_
                refine rb_iload rfl ?_
                refine rb_aload rfl ?_
                refine rb_getf (v := .ref 69) rfl ?_
                refine rb_push ?_
                refine rb_iald rfl (by decide) (show _ = some (0) from rfl) ?_
                refine rb_cge (fun _ => ?_) (fun h => absurd (by decide) h)
                refine rn_step rfl ?_
                refine rb_iload rfl ?_
                refine rb_ret rfl rfl
              refine rb_istore (lv' := [some (.ref 68), some (.int 0), some (.int 8), some (.int (-1)), some (.int (-1))]) rfl ?_
              refine rb_iload rfl ?_
              refine rb_push ?_
              refine rb_divL (z := 2) (by decide) (by decide) ?_
              refine rb_push ?_
              refine rb_cge (fun _ => ?_) (fun h => absurd (by decide) h)
              refine rn_step rfl ?_
              refine rb_iinc (lv' := [some (.ref 68), some (.int 0), some (.int 9), some (.int (-1)), some (.int (-1))]) rfl rfl ?_
              refine rb_goto ?_
              refine rn_step rfl ?_
              refine rb_iload rfl ?_
              refine rb_push ?_
              refine rb_cge (fun h => absurd h (by decide)) (fun _ => ?_)
              refine rb_aload rfl ?_
              refine rb_iload rfl ?_
              apply rb_callV1
              case hb => exact rfl
              case hcl => exact rfl
              case hc =>
                apply ex_X9_holder
                refine rn_step rfl ?_
                refine rb_push ?_
                refine rb_istore (lv' := [some (.ref 68), some (.int 9), some (.int (-1)), none]) rfl ?_
                refine rb_push ?_
                refine rb_istore (lv' := [some (.ref 68), some (.int 9), some (.int (-1)), some (.int 0)]) rfl ?_
                refine rb_goto ?_
                refine rn_step rfl ?_
                refine rb_iload rfl ?_
                refine rb_aload rfl ?_
                refine rb_getf (v := .ref 69) rfl ?_
                refine rb_push ?_
                refine rb_iald rfl (by decide) (show _ = some (0) from rfl) ?_
                refine rb_cge (fun _ => ?_) (fun h => absurd (by decide) h)
                refine rn_step rfl ?_
                refine rb_iload rfl ?_
                refine rb_ret rfl rfl
              refine rb_istore (lv' := [some (.ref 68), some (.int 0), some (.int 9), some (.int (-1)), some (.int (-1))]) rfl ?_
              refine rb_aload rfl ?_
              refine rb_iload rfl ?_
              refine rb_push ?_
              refine rb_binL (z := 10) (by decide) ?_
              apply rb_callV1
              case hb => exact rfl
              case hcl => exact rfl
              case hc =>
                apply ex_X9_holder
                refine rn_step rfl ?_
                refine rb_push ?_
                refine rb_istore (lv' := [some (.ref 68), some (.int 10), some (.int (-1)), none]) rfl ?_
                refine rb_push ?_
                refine rb_istore (lv' := [some (.ref 68), some (.int 10), some (.int (-1)), some (.int 0)]) rfl ?_
                refine rb_goto ?_
                refine rn_step rfl ?_
                refine rb_iload rfl ?_
                refine rb_aload rfl ?_
                refine rb_getf (v := .ref 69) rfl ?_
                refine rb_push ?_
                refine rb_iald rfl (by decide) (show _ = some (0) from rfl) ?_
                refine rb_cge (fun _ => ?_) (fun h => absurd (by decide) h)
                refine rn_step rfl ?_
                refine rb_iload rfl ?_
                refine rb_ret rfl rfl
              refine rb_istore (lv' := [some (.ref 68), some (.int 0), some (.int 9), some (.int (-1)), some (.int (-1))]) rfl ?_
              refine rb_iload rfl ?_
              refine rb_push ?_
              refine rb_divL (z := 0) (by decide) (by decide) ?_
              refine rb_push ?_
              refine rb_cge (fun h => absurd h (by decide)) (fun _ => ?_)
              refine rb_iload rfl ?_
              refine rb_ilt (fun _ => ?_) (fun h => absurd (by decide) h)
              refine rn_step rfl ?_
              refine rb_iinc (lv' := [some (.ref 68), some (.int 0), some (.int 10), some (.int (-1)), some (.int (-1))]) rfl rfl ?_
              refine rb_goto ?_
              refine rn_step rfl ?_
              refine rb_iload rfl ?_
              refine rb_push ?_
              refine rb_cge (fun h => absurd h (by decide)) (fun _ => ?_)
              refine rb_aload rfl ?_
              refine rb_iload rfl ?_
              apply rb_callV1
              case hb => exact rfl
              case hcl => exact rfl
              case hc =>
                apply ex_X9_holder
                refine rn_step rfl ?_
                refine rb_push ?_
                refine rb_istore (lv' := [some (.ref 68), some (.int 10), some (.int (-1)), none]) rfl ?_
                refine rb_push ?_
                refine rb_istore (lv' := [some (.ref 68), some (.int 10), some (.int (-1)), some (.int 0)]) rfl ?_
                refine rb_goto ?_
                refine rn_step rfl ?_
                refine rb_iload rfl ?_
                refine rb_aload rfl ?_
                refine rb_getf (v := .ref 69) rfl ?_
                refine rb_push ?_
                refine rb_iald rfl (by decide) (show _ = some (0) from rfl) ?_
                refine rb_cge (fun _ => ?_) (fun h => absurd (by decide) h)
                refine rn_step rfl ?_
                refine rb_iload rfl ?_
                refine rb_ret rfl rfl
              refine rb_istore (lv' := [some (.ref 68), some (.int 0), some (.int 10), some (.int (-1)), some (.int (-1))]) rfl ?_
              refine rb_aload rfl ?_
              refine rb_iload rfl ?_
              refine rb_push ?_
              refine rb_binL (z := 11) (by decide) ?_
              apply rb_callV1
              case hb => exact rfl
              case hcl => exact rfl
              case hc =>
                apply ex_X9_holder
                refine rn_step rfl ?_
                refine rb_push ?_
                refine rb_istore (lv' := [some (.ref 68), some (.int 11), some (.int (-1)), none]) rfl ?_
                refine rb_push ?_
                refine rb_istore (lv' := [some (.ref 68), some (.int 11), some (.int (-1)), some (.int 0)]) rfl ?_
                refine rb_goto ?_
                refine rn_step rfl ?_
                refine rb_iload rfl ?_
                refine rb_aload rfl ?_
                refine rb_getf (v := .ref 69) rfl ?_
                refine rb_push ?_
                refine rb_iald rfl (by decide) (show _ = some (0) from rfl) ?_
                refine rb_cge (fun _ => ?_) (fun h => absurd (by decide) h)
                refine rn_step rfl ?_
                refine rb_iload rfl ?_
                refine rb_ret rfl rfl
              refine rb_istore (lv' := [some (.ref 68), some (.int 0), some (.int 10), some (.int (-1)), some (.int (-1))]) rfl ?_
              refine rb_iload rfl ?_
              refine rb_push ?_
              refine rb_divL (z := 1) (by decide) (by decide) ?_
              refine rb_push ?_
              refine rb_cge (fun h => absurd h (by decide)) (fun _ => ?_)
              refine rb_iload rfl ?_
              refine rb_ilt (fun _ => ?_) (fun h => absurd (by decide) h)
              refine rn_step rfl ?_
              refine rb_iinc (lv' := [some (.ref 68), some (.int 0), some (.int 11), some (.int (-1)), some (.int (-1))]) rfl rfl ?_
              refine rb_goto ?_
              refine rn_step rfl ?_
              refine rb_iload rfl ?_
              refine rb_push ?_
              refine rb_cge (fun _ => ?_) (fun h => absurd (by decide) h)
              refine rn_step rfl ?_
              refine rb_iload rfl ?_
              refine rb_ret rfl rfl
            refine rb_ret rfl rfl
          refine rb_goto ?_
          refine rn_step rfl ?_
          refine rb_istore (lv' := [some (.ref 68), some (.int (nI n)), some (.int 1), some (.int 0)]) rfl ?_
          refine rb_aload rfl ?_
          apply rb_callV0v
          case hb => exact rfl
          case hcl => exact rfl
          case hc =>
            exact c_putsBack (d := 6) _ (okL_len (okL.sA (okL.sA (okL.sI (okL.sI s1_ok _ _ _) _ _ _) _ (by rw [List.length_take, okL_len (okL.sI (okL.sI s1_ok _ _ _) _ _ _) (c := 69) (n := 1461) (by decide) rfl (by decide), okL_len (okL.sI (okL.sI s1_ok _ _ _) _ _ _) (c := 74) (n := 89) (by decide) rfl (by decide)]; rfl)) _ (by simp only [List.length_set])) (c := 69) (n := 1461) (by decide) rfl (by decide)) (okL_len (okL.sA (okL.sA (okL.sI (okL.sI s1_ok _ _ _) _ _ _) _ (by rw [List.length_take, okL_len (okL.sI (okL.sI s1_ok _ _ _) _ _ _) (c := 69) (n := 1461) (by decide) rfl (by decide), okL_len (okL.sI (okL.sI s1_ok _ _ _) _ _ _) (c := 74) (n := 89) (by decide) rfl (by decide)]; rfl)) _ (by simp only [List.length_set])) (c := 74) (n := 89) (by decide) rfl (by decide))
          refine rb_iload rfl ?_
          refine rb_ret rfl rfl
        case h3 => exact (okL.sI (okL.sA (okL.sA (okL.sA (okL.sI (okL.sI s1_ok _ _ _) _ _ _) _ (by rw [List.length_take, okL_len (okL.sI (okL.sI s1_ok _ _ _) _ _ _) (c := 69) (n := 1461) (by decide) rfl (by decide), okL_len (okL.sI (okL.sI s1_ok _ _ _) _ _ _) (c := 74) (n := 89) (by decide) rfl (by decide)]; rfl)) _ (by simp only [List.length_set])) _ (by rw [List.length_append, List.length_take, List.length_drop, okL_len (okL.sA (okL.sA (okL.sI (okL.sI s1_ok _ _ _) _ _ _) _ (by rw [List.length_take, okL_len (okL.sI (okL.sI s1_ok _ _ _) _ _ _) (c := 69) (n := 1461) (by decide) rfl (by decide), okL_len (okL.sI (okL.sI s1_ok _ _ _) _ _ _) (c := 74) (n := 89) (by decide) rfl (by decide)]; rfl)) _ (by simp only [List.length_set])) (c := 69) (n := 1461) (by decide) rfl (by decide), okL_len (okL.sA (okL.sA (okL.sI (okL.sI s1_ok _ _ _) _ _ _) _ (by rw [List.length_take, okL_len (okL.sI (okL.sI s1_ok _ _ _) _ _ _) (c := 69) (n := 1461) (by decide) rfl (by decide), okL_len (okL.sI (okL.sI s1_ok _ _ _) _ _ _) (c := 74) (n := 89) (by decide) rfl (by decide)]; rfl)) _ (by simp only [List.length_set])) (c := 74) (n := 89) (by decide) rfl (by decide)]; rfl)) _ _ _)
        case h4 => exact rfl
      ·
        obtain rfl : b = 2 := ia_one hlb hhb (by decide) (by decide)
        obtain ⟨zx, dx, hx⟩ := c_passDays0 (d := 3) s1 isT24 ⟨rfl, rfl, rfl⟩ hn
        have ht := c_thinks (d := 6) (sI (sI s1 24 14 zx) 24 13 dx) (okL_len s1_ok (c := 69) (n := 1461) (by decide) rfl (by decide)) (okL_len s1_ok (c := 74) (n := 89) (by decide) rfl (by decide))
        obtain ⟨zm, dm, hm⟩ := c_goesOn0 (d := 3) (sA (sI (sI s1 24 14 zx) 24 13 dx) 74 (((sI (sI s1 24 14 zx) 24 13 dx).2.1 69).take 89)) (z := 1) (dd := 0) rfl rfl rfl rfl hn
        apply p1_intro (v := 0)
        case h1 =>
          apply ex_X8_behind
          refine rn_step rfl ?_
          refine rb_iload rfl ?_
          refine rb_push ?_
          refine rb_push ?_
          apply rb_callS3
          case hcl => exact rfl
          case hc =>
            apply ex_X8_within
            refine rn_step rfl ?_
            refine rb_iload rfl ?_
            refine rb_iload rfl ?_
            refine rb_clt (fun h => absurd h (ia_nlt hla (by decide))) (fun _ => ?_)
            refine rb_iload rfl ?_
            refine rb_iload rfl ?_
            refine rb_cgt (fun h => absurd h (ia_ngt hha (by decide))) (fun _ => ?_)
            refine rb_push ?_
            refine rb_goto ?_
            refine rn_step rfl ?_
            refine rb_ret rfl rfl
          refine rb_ieq (fun h => absurd h (by decide)) (fun _ => ?_)
          refine rb_iload rfl ?_
          refine rb_push ?_
          refine rb_push ?_
          apply rb_callS3
          case hcl => exact rfl
          case hc =>
            apply ex_X8_within
            refine rn_step rfl ?_
            refine rb_iload rfl ?_
            refine rb_iload rfl ?_
            refine rb_clt (fun h => absurd h (by decide)) (fun _ => ?_)
            refine rb_iload rfl ?_
            refine rb_iload rfl ?_
            refine rb_cgt (fun h => absurd h (by decide)) (fun _ => ?_)
            refine rb_push ?_
            refine rb_goto ?_
            refine rn_step rfl ?_
            refine rb_ret rfl rfl
          refine rb_ine (fun _ => ?_) (fun h => absurd (by decide) h)
          refine rn_step rfl ?_
          refine rb_aload rfl ?_
          refine rb_getf (v := .ref 23) rfl ?_
          refine rb_aload rfl ?_
          refine rb_getf (v := .ref 1) rfl ?_
          refine rb_iload rfl ?_
          apply rb_callV2
          case hb => exact rfl
          case hcl => exact rfl
          case hc =>
            apply ex_X7_behindDays
            refine rn_step rfl ?_
            refine rb_aload rfl ?_
            refine rb_getf (v := .ref 24) rfl ?_
            refine rb_aload rfl ?_
            apply rb_callV1v
            case hb => exact rfl
            case hcl => exact rfl
            case hc =>
              exact p1_become24
            refine rb_aload rfl ?_
            refine rb_getf (v := .ref 24) rfl ?_
            refine rb_iload rfl ?_
            apply rb_callV1v
            case hb => exact rfl
            case hcl => exact rfl
            case hc =>
              exact hx
            refine rb_aload rfl ?_
            refine rb_getf (v := .ref 24) rfl ?_
            refine rb_ret rfl rfl
          refine rb_astore (lv' := [some (.ref 0), some (.int (nI n)), some (.int 2), some (.ref 24)]) rfl ?_
          refine rb_iload rfl ?_
          refine rb_swL (n := 5) (by decide) ?_
          refine rn_step rfl ?_
          refine rb_aload rfl ?_
          apply rb_callV0
          case hb => exact rfl
          case hcl => exact rfl
          case hc =>
            apply ex_X4_laidStones
            refine rn_step rfl ?_
            refine rb_aload rfl ?_
            apply rb_callV0
            case hb => exact rfl
            case hcl => exact rfl
            case hc =>
              apply ex_X4_placesHeld
              refine rn_step rfl ?_
              refine rb_push ?_
              refine rb_istore (lv' := [some (.ref 24), some (.int 0), none]) rfl ?_
              refine rb_push ?_
              refine rb_istore (lv' := [some (.ref 24), some (.int 0), some (.int 0)]) rfl ?_
              refine rb_goto ?_
              refine rn_step rfl ?_
              refine rb_iload rfl ?_
              refine rb_push ?_
              refine rb_cge (fun h => absurd h (by decide)) (fun _ => ?_)
              refine rb_aload rfl ?_
              refine rb_getf (v := .ref 30) rfl ?_
              refine rb_iload rfl ?_
              refine rb_iald rfl (by decide) (show _ = some ((-1)) from rfl) ?_
              refine rb_push ?_
              refine rb_ceq (fun _ => ?_) (fun h => absurd (by decide) h)
              refine rn_step rfl ?_
              refine rb_iinc (lv' := [some (.ref 24), some (.int 0), some (.int 1)]) rfl rfl ?_
              refine rb_goto ?_
              refine rn_step rfl ?_
              refine rb_iload rfl ?_
              refine rb_push ?_
              refine rb_cge (fun h => absurd h (by decide)) (fun _ => ?_)
              refine rb_aload rfl ?_
              refine rb_getf (v := .ref 30) rfl ?_
              refine rb_iload rfl ?_
              refine rb_iald rfl (by decide) (show _ = some ((-1)) from rfl) ?_
              refine rb_push ?_
              refine rb_ceq (fun _ => ?_) (fun h => absurd (by decide) h)
              refine rn_step rfl ?_
              refine rb_iinc (lv' := [some (.ref 24), some (.int 0), some (.int 2)]) rfl rfl ?_
              refine rb_goto ?_
              refine rn_step rfl ?_
              refine rb_iload rfl ?_
              refine rb_push ?_
              refine rb_cge (fun h => absurd h (by decide)) (fun _ => ?_)
              refine rb_aload rfl ?_
              refine rb_getf (v := .ref 30) rfl ?_
              refine rb_iload rfl ?_
              refine rb_iald rfl (by decide) (show _ = some ((-1)) from rfl) ?_
              refine rb_push ?_
              refine rb_ceq (fun _ => ?_) (fun h => absurd (by decide) h)
              refine rn_step rfl ?_
              refine rb_iinc (lv' := [some (.ref 24), some (.int 0), some (.int 3)]) rfl rfl ?_
              refine rb_goto ?_
              refine rn_step rfl ?_
              refine rb_iload rfl ?_
              refine rb_push ?_
              refine rb_cge (fun h => absurd h (by decide)) (fun _ => ?_)
              refine rb_aload rfl ?_
              refine rb_getf (v := .ref 30) rfl ?_
              refine rb_iload rfl ?_
              refine rb_iald rfl (by decide) (show _ = some ((-1)) from rfl) ?_
              refine rb_push ?_
              refine rb_ceq (fun _ => ?_) (fun h => absurd (by decide) h)
              refine rn_step rfl ?_
              refine rb_iinc (lv' := [some (.ref 24), some (.int 0), some (.int 4)]) rfl rfl ?_
              refine rb_goto ?_
              refine rn_step rfl ?_
              refine rb_iload rfl ?_
              refine rb_push ?_
              refine rb_cge (fun h => absurd h (by decide)) (fun _ => ?_)
              refine rb_aload rfl ?_
              refine rb_getf (v := .ref 30) rfl ?_
              refine rb_iload rfl ?_
              refine rb_iald rfl (by decide) (show _ = some ((-1)) from rfl) ?_
              refine rb_push ?_
              refine rb_ceq (fun _ => ?_) (fun h => absurd (by decide) h)
              refine rn_step rfl ?_
              refine rb_iinc (lv' := [some (.ref 24), some (.int 0), some (.int 5)]) rfl rfl ?_
              refine rb_goto ?_
              refine rn_step rfl ?_
              refine rb_iload rfl ?_
              refine rb_push ?_
              refine rb_cge (fun h => absurd h (by decide)) (fun _ => ?_)
              refine rb_aload rfl ?_
              refine rb_getf (v := .ref 30) rfl ?_
              refine rb_iload rfl ?_
              refine rb_iald rfl (by decide) (show _ = some ((-1)) from rfl) ?_
              refine rb_push ?_
              refine rb_ceq (fun _ => ?_) (fun h => absurd (by decide) h)
              refine rn_step rfl ?_
              refine rb_iinc (lv' := [some (.ref 24), some (.int 0), some (.int 6)]) rfl rfl ?_
              refine rb_goto ?_
              refine rn_step rfl ?_
              refine rb_iload rfl ?_
              refine rb_push ?_
              refine rb_cge (fun h => absurd h (by decide)) (fun _ => ?_)
              refine rb_aload rfl ?_
              refine rb_getf (v := .ref 30) rfl ?_
              refine rb_iload rfl ?_
              refine rb_iald rfl (by decide) (show _ = some ((-1)) from rfl) ?_
              refine rb_push ?_
              refine rb_ceq (fun _ => ?_) (fun h => absurd (by decide) h)
              refine rn_step rfl ?_
              refine rb_iinc (lv' := [some (.ref 24), some (.int 0), some (.int 7)]) rfl rfl ?_
              refine rb_goto ?_
              refine rn_step rfl ?_
              refine rb_iload rfl ?_
              refine rb_push ?_
              refine rb_cge (fun h => absurd h (by decide)) (fun _ => ?_)
              refine rb_aload rfl ?_
              refine rb_getf (v := .ref 30) rfl ?_
              refine rb_iload rfl ?_
              refine rb_iald rfl (by decide) (show _ = some ((-1)) from rfl) ?_
              refine rb_push ?_
              refine rb_ceq (fun _ => ?_) (fun h => absurd (by decide) h)
              refine rn_step rfl ?_
              refine rb_iinc (lv' := [some (.ref 24), some (.int 0), some (.int 8)]) rfl rfl ?_
              refine rb_goto ?_
              refine rn_step rfl ?_
              refine rb_iload rfl ?_
              refine rb_push ?_
              refine rb_cge (fun h => absurd h (by decide)) (fun _ => ?_)
              refine rb_aload rfl ?_
              refine rb_getf (v := .ref 30) rfl ?_
              refine rb_iload rfl ?_
              refine rb_iald rfl (by decide) (show _ = some ((-1)) from rfl) ?_
              refine rb_push ?_
              refine rb_ceq (fun _ => ?_) (fun h => absurd (by decide) h)
              refine rn_step rfl ?_
              refine rb_iinc (lv' := [some (.ref 24), some (.int 0), some (.int 9)]) rfl rfl ?_
              refine rb_goto ?_
              refine rn_step rfl ?_
              refine rb_iload rfl ?_
              refine rb_push ?_
              refine rb_cge (fun h => absurd h (by decide)) (fun _ => ?_)
              refine rb_aload rfl ?_
              refine rb_getf (v := .ref 30) rfl ?_
              refine rb_iload rfl ?_
              refine rb_iald rfl (by decide) (show _ = some ((-1)) from rfl) ?_
              refine rb_push ?_
              refine rb_ceq (fun _ => ?_) (fun h => absurd (by decide) h)
              refine rn_step rfl ?_
              refine rb_iinc (lv' := [some (.ref 24), some (.int 0), some (.int 10)]) rfl rfl ?_
              refine rb_goto ?_
              refine rn_step rfl ?_
              refine rb_iload rfl ?_
              refine rb_push ?_
              refine rb_cge (fun h => absurd h (by decide)) (fun _ => ?_)
              refine rb_aload rfl ?_
              refine rb_getf (v := .ref 30) rfl ?_
              refine rb_iload rfl ?_
              refine rb_iald rfl (by decide) (show _ = some ((-1)) from rfl) ?_
              refine rb_push ?_
              refine rb_ceq (fun _ => ?_) (fun h => absurd (by decide) h)
              refine rn_step rfl ?_
              refine rb_iinc (lv' := [some (.ref 24), some (.int 0), some (.int 11)]) rfl rfl ?_
              refine rb_goto ?_
              refine rn_step rfl ?_
              refine rb_iload rfl ?_
              refine rb_push ?_
              refine rb_cge (fun h => absurd h (by decide)) (fun _ => ?_)
              refine rb_aload rfl ?_
              refine rb_getf (v := .ref 30) rfl ?_
              refine rb_iload rfl ?_
              refine rb_iald rfl (by decide) (show _ = some ((-1)) from rfl) ?_
              refine rb_push ?_
              refine rb_ceq (fun _ => ?_) (fun h => absurd (by decide) h)
              refine rn_step rfl ?_
              refine rb_iinc (lv' := [some (.ref 24), some (.int 0), some (.int 12)]) rfl rfl ?_
              refine rb_goto ?_
              refine rn_step rfl ?_
              refine rb_iload rfl ?_
              refine rb_push ?_
              refine rb_cge (fun _ => ?_) (fun h => absurd (by decide) h)
              refine rn_step rfl ?_
              refine rb_iload rfl ?_
              refine rb_ret rfl rfl
            apply rb_callS1
            case hcl => exact rfl
            case hc =>
              apply ex_J6_bitCount_0f7a4
              refine rn_step rfl ?_
              refine rb_iload rfl ?_
              refine rb_iload rfl ?_
              refine rb_push ?_
              refine rb_binL (z := 0) (by decide) ?_
              refine rb_push ?_
              refine rb_binL (z := 0) (by decide) ?_
              refine rb_binL (z := 0) (by decide) ?_
              refine rb_istore (lv' := [some (.int 0)]) rfl ?_
              refine rb_iload rfl ?_
              refine rb_push ?_
              refine rb_binL (z := 0) (by decide) ?_
              refine rb_iload rfl ?_
              refine rb_push ?_
              refine rb_binL (z := 0) (by decide) ?_
              refine rb_push ?_
              refine rb_binL (z := 0) (by decide) ?_
              refine rb_binL (z := 0) (by decide) ?_
              refine rb_istore (lv' := [some (.int 0)]) rfl ?_
              refine rb_iload rfl ?_
              refine rb_iload rfl ?_
              refine rb_push ?_
              refine rb_binL (z := 0) (by decide) ?_
              refine rb_binL (z := 0) (by decide) ?_
              refine rb_push ?_
              refine rb_binL (z := 0) (by decide) ?_
              refine rb_istore (lv' := [some (.int 0)]) rfl ?_
              refine rb_iload rfl ?_
              refine rb_iload rfl ?_
              refine rb_push ?_
              refine rb_binL (z := 0) (by decide) ?_
              refine rb_binL (z := 0) (by decide) ?_
              refine rb_istore (lv' := [some (.int 0)]) rfl ?_
              refine rb_iload rfl ?_
              refine rb_iload rfl ?_
              refine rb_push ?_
              refine rb_binL (z := 0) (by decide) ?_
              refine rb_binL (z := 0) (by decide) ?_
              refine rb_istore (lv' := [some (.int 0)]) rfl ?_
              refine rb_iload rfl ?_
              refine rb_push ?_
              refine rb_binL (z := 0) (by decide) ?_
              refine rb_ret rfl rfl
            refine rb_ret rfl rfl
          refine rb_ret rfl rfl
        case h2 =>
          apply ex_X9_behind
          refine rn_step rfl ?_
          refine rb_iload rfl ?_
          refine rb_push ?_
          refine rb_push ?_
          apply rb_callS3
          case hcl => exact rfl
          case hc =>
            apply ex_X9_in
            refine rn_step rfl ?_
            refine rb_iload rfl ?_
            refine rb_iload rfl ?_
            refine rb_clt (fun h => absurd h (ia_nlt hla (by decide))) (fun _ => ?_)
            refine rb_iload rfl ?_
            refine rb_iload rfl ?_
            refine rb_cgt (fun h => absurd h (ia_ngt hha (by decide))) (fun _ => ?_)
            refine rb_push ?_
            refine rb_goto ?_
            refine rn_step rfl ?_
            refine rb_ret rfl rfl
          refine rb_ieq (fun h => absurd h (by decide)) (fun _ => ?_)
          refine rb_iload rfl ?_
          refine rb_push ?_
          refine rb_push ?_
          apply rb_callS3
          case hcl => exact rfl
          case hc =>
            apply ex_X9_in
            refine rn_step rfl ?_
            refine rb_iload rfl ?_
            refine rb_iload rfl ?_
            refine rb_clt (fun h => absurd h (by decide)) (fun _ => ?_)
            refine rb_iload rfl ?_
            refine rb_iload rfl ?_
            refine rb_cgt (fun h => absurd h (by decide)) (fun _ => ?_)
            refine rb_push ?_
            refine rb_goto ?_
            refine rn_step rfl ?_
            refine rb_ret rfl rfl
          refine rb_ine (fun _ => ?_) (fun h => absurd (by decide) h)
          refine rn_step rfl ?_
          refine rb_aload rfl ?_
          apply rb_callV0v
          case hb => exact rfl
          case hcl => exact rfl
          case hc =>
            exact ht
          refine rb_aload rfl ?_
          refine rb_iload rfl ?_
          apply rb_callV1v
          case hb => exact rfl
          case hcl => exact rfl
          case hc =>
            exact hm
          refine rb_iload rfl ?_
          refine rb_push ?_
          refine rb_cle (fun _ => ?_) (fun h => absurd (by decide) h)
          refine rn_step rfl ?_
          refine rb_aload rfl ?_
          refine rb_iload rfl ?_
          apply rb_callV1
          case hb => exact rfl
          case hcl => exact rfl
          case hc =>
            apply ex_X9_king
            refine rn_step rfl ?_
            refine rb_iload rfl ?_
            refine rb_swL (n := 3) (by decide) ?_
            refine rn_step rfl ?_
            refine rb_aload rfl ?_
            apply rb_callV0
            case hb => exact rfl
            case hcl => exact rfl
            case hc =>
              apply ex_X9_manyLaid
              refine rn_step rfl ?_
              refine rb_push ?_
              refine rb_istore (lv' := [some (.ref 68), some (.int 0), none]) rfl ?_
              refine rb_push ?_
              refine rb_istore (lv' := [some (.ref 68), some (.int 0), some (.int 0)]) rfl ?_
              refine rb_goto ?_
              refine rn_step rfl ?_
              refine rb_iload rfl ?_
              refine rb_aload rfl ?_
              refine rb_getf (v := .ref 69) rfl ?_
              refine rb_push ?_
              refine rb_iald rfl (by decide) (show _ = some (0) from rfl) ?_
              refine rb_cge (fun _ => ?_) (fun h => absurd (by decide) h)
              refine rn_step rfl ?_
              refine rb_iload rfl ?_
              refine rb_ret rfl rfl
            refine rb_ret rfl rfl
          refine rb_goto ?_
          refine rn_step rfl ?_
          refine rb_istore (lv' := [some (.ref 68), some (.int (nI n)), some (.int 2), some (.int 0)]) rfl ?_
          refine rb_aload rfl ?_
          apply rb_callV0v
          case hb => exact rfl
          case hcl => exact rfl
          case hc =>
            exact c_putsBack (d := 6) _ (okL_len (okL.sA (okL.sA (okL.sI (okL.sI s1_ok _ _ _) _ _ _) _ (by rw [List.length_take, okL_len (okL.sI (okL.sI s1_ok _ _ _) _ _ _) (c := 69) (n := 1461) (by decide) rfl (by decide), okL_len (okL.sI (okL.sI s1_ok _ _ _) _ _ _) (c := 74) (n := 89) (by decide) rfl (by decide)]; rfl)) _ (by simp only [List.length_set])) (c := 69) (n := 1461) (by decide) rfl (by decide)) (okL_len (okL.sA (okL.sA (okL.sI (okL.sI s1_ok _ _ _) _ _ _) _ (by rw [List.length_take, okL_len (okL.sI (okL.sI s1_ok _ _ _) _ _ _) (c := 69) (n := 1461) (by decide) rfl (by decide), okL_len (okL.sI (okL.sI s1_ok _ _ _) _ _ _) (c := 74) (n := 89) (by decide) rfl (by decide)]; rfl)) _ (by simp only [List.length_set])) (c := 74) (n := 89) (by decide) rfl (by decide))
          refine rb_iload rfl ?_
          refine rb_ret rfl rfl
        case h3 => exact (okL.sI (okL.sA (okL.sA (okL.sA (okL.sI (okL.sI s1_ok _ _ _) _ _ _) _ (by rw [List.length_take, okL_len (okL.sI (okL.sI s1_ok _ _ _) _ _ _) (c := 69) (n := 1461) (by decide) rfl (by decide), okL_len (okL.sI (okL.sI s1_ok _ _ _) _ _ _) (c := 74) (n := 89) (by decide) rfl (by decide)]; rfl)) _ (by simp only [List.length_set])) _ (by rw [List.length_append, List.length_take, List.length_drop, okL_len (okL.sA (okL.sA (okL.sI (okL.sI s1_ok _ _ _) _ _ _) _ (by rw [List.length_take, okL_len (okL.sI (okL.sI s1_ok _ _ _) _ _ _) (c := 69) (n := 1461) (by decide) rfl (by decide), okL_len (okL.sI (okL.sI s1_ok _ _ _) _ _ _) (c := 74) (n := 89) (by decide) rfl (by decide)]; rfl)) _ (by simp only [List.length_set])) (c := 69) (n := 1461) (by decide) rfl (by decide), okL_len (okL.sA (okL.sA (okL.sI (okL.sI s1_ok _ _ _) _ _ _) _ (by rw [List.length_take, okL_len (okL.sI (okL.sI s1_ok _ _ _) _ _ _) (c := 69) (n := 1461) (by decide) rfl (by decide), okL_len (okL.sI (okL.sI s1_ok _ _ _) _ _ _) (c := 74) (n := 89) (by decide) rfl (by decide)]; rfl)) _ (by simp only [List.length_set])) (c := 74) (n := 89) (by decide) rfl (by decide)]; rfl)) _ _ _)
        case h4 => exact rfl
  ·
    rcases ia_cut (c := 4) hlb hhb with ⟨hlb, hhb⟩ | ⟨hlb, hhb⟩
    ·
      obtain rfl : b = 3 := ia_one hlb hhb (by decide) (by decide)
      obtain ⟨zx, dx, hx⟩ := c_passDays0 (d := 3) s1 isT24 ⟨rfl, rfl, rfl⟩ hn
      have ht := c_thinks (d := 6) (sI (sI s1 24 14 zx) 24 13 dx) (okL_len s1_ok (c := 69) (n := 1461) (by decide) rfl (by decide)) (okL_len s1_ok (c := 74) (n := 89) (by decide) rfl (by decide))
      obtain ⟨zm, dm, hm⟩ := c_goesOn0 (d := 3) (sA (sI (sI s1 24 14 zx) 24 13 dx) 74 (((sI (sI s1 24 14 zx) 24 13 dx).2.1 69).take 89)) (z := 1) (dd := 0) rfl rfl rfl rfl hn
      apply p1_intro (v := (-1000000005))
      case h1 =>
        apply ex_X8_behind
        refine rn_step rfl ?_
        refine rb_iload rfl ?_
        refine rb_push ?_
        refine rb_push ?_
        apply rb_callS3
        case hcl => exact rfl
        case hc =>
          apply ex_X8_within
          refine rn_step rfl ?_
          refine rb_iload rfl ?_
          refine rb_iload rfl ?_
          refine rb_clt (fun h => absurd h (ia_nlt hla (by decide))) (fun _ => ?_)
          refine rb_iload rfl ?_
          refine rb_iload rfl ?_
          refine rb_cgt (fun h => absurd h (ia_ngt hha (by decide))) (fun _ => ?_)
          refine rb_push ?_
          refine rb_goto ?_
          refine rn_step rfl ?_
          refine rb_ret rfl rfl
        refine rb_ieq (fun h => absurd h (by decide)) (fun _ => ?_)
        refine rb_iload rfl ?_
        refine rb_push ?_
        refine rb_push ?_
        apply rb_callS3
        case hcl => exact rfl
        case hc =>
          apply ex_X8_within
          refine rn_step rfl ?_
          refine rb_iload rfl ?_
          refine rb_iload rfl ?_
          refine rb_clt (fun h => absurd h (by decide)) (fun _ => ?_)
          refine rb_iload rfl ?_
          refine rb_iload rfl ?_
          refine rb_cgt (fun h => absurd h (by decide)) (fun _ => ?_)
          refine rb_push ?_
          refine rb_goto ?_
          refine rn_step rfl ?_
          refine rb_ret rfl rfl
        refine rb_ine (fun _ => ?_) (fun h => absurd (by decide) h)
        refine rn_step rfl ?_
        refine rb_aload rfl ?_
        refine rb_getf (v := .ref 23) rfl ?_
        refine rb_aload rfl ?_
        refine rb_getf (v := .ref 1) rfl ?_
        refine rb_iload rfl ?_
        apply rb_callV2
        case hb => exact rfl
        case hcl => exact rfl
        case hc =>
          apply ex_X7_behindDays
          refine rn_step rfl ?_
          refine rb_aload rfl ?_
          refine rb_getf (v := .ref 24) rfl ?_
          refine rb_aload rfl ?_
          apply rb_callV1v
          case hb => exact rfl
          case hcl => exact rfl
          case hc =>
            exact p1_become24
          refine rb_aload rfl ?_
          refine rb_getf (v := .ref 24) rfl ?_
          refine rb_iload rfl ?_
          apply rb_callV1v
          case hb => exact rfl
          case hcl => exact rfl
          case hc =>
            exact hx
          refine rb_aload rfl ?_
          refine rb_getf (v := .ref 24) rfl ?_
          refine rb_ret rfl rfl
        refine rb_astore (lv' := [some (.ref 0), some (.int (nI n)), some (.int 3), some (.ref 24)]) rfl ?_
        refine rb_iload rfl ?_
        refine rb_swL (n := 6) (by decide) ?_
        refine rn_step rfl ?_
        refine rb_aload rfl ?_
        refine rb_getf (v := .ref 30) rfl ?_
        refine rb_iload rfl ?_
        refine rb_push ?_
        refine rb_binL (z := 0) (by decide) ?_
        refine rb_iald rfl (by decide) (show _ = some ((-1)) from rfl) ?_
        apply rb_callS1
        case hcl => exact rfl
        case hc =>
          apply ex_X8_stoneOrNone
          refine rn_step rfl ?_
          refine rb_iload rfl ?_
          refine rb_push ?_
          refine rb_cne (fun h => absurd (by decide) h) (fun _ => ?_)
          refine rb_push ?_
          refine rb_goto ?_
          refine rn_step rfl ?_
          refine rb_ret rfl rfl
        refine rb_ret rfl rfl
      case h2 =>
        apply ex_X9_behind
        refine rn_step rfl ?_
        refine rb_iload rfl ?_
        refine rb_push ?_
        refine rb_push ?_
        apply rb_callS3
        case hcl => exact rfl
        case hc =>
          apply ex_X9_in
          refine rn_step rfl ?_
          refine rb_iload rfl ?_
          refine rb_iload rfl ?_
          refine rb_clt (fun h => absurd h (ia_nlt hla (by decide))) (fun _ => ?_)
          refine rb_iload rfl ?_
          refine rb_iload rfl ?_
          refine rb_cgt (fun h => absurd h (ia_ngt hha (by decide))) (fun _ => ?_)
          refine rb_push ?_
          refine rb_goto ?_
          refine rn_step rfl ?_
          refine rb_ret rfl rfl
        refine rb_ieq (fun h => absurd h (by decide)) (fun _ => ?_)
        refine rb_iload rfl ?_
        refine rb_push ?_
        refine rb_push ?_
        apply rb_callS3
        case hcl => exact rfl
        case hc =>
          apply ex_X9_in
          refine rn_step rfl ?_
          refine rb_iload rfl ?_
          refine rb_iload rfl ?_
          refine rb_clt (fun h => absurd h (by decide)) (fun _ => ?_)
          refine rb_iload rfl ?_
          refine rb_iload rfl ?_
          refine rb_cgt (fun h => absurd h (by decide)) (fun _ => ?_)
          refine rb_push ?_
          refine rb_goto ?_
          refine rn_step rfl ?_
          refine rb_ret rfl rfl
        refine rb_ine (fun _ => ?_) (fun h => absurd (by decide) h)
        refine rn_step rfl ?_
        refine rb_aload rfl ?_
        apply rb_callV0v
        case hb => exact rfl
        case hcl => exact rfl
        case hc =>
          exact ht
        refine rb_aload rfl ?_
        refine rb_iload rfl ?_
        apply rb_callV1v
        case hb => exact rfl
        case hcl => exact rfl
        case hc =>
          exact hm
        refine rb_iload rfl ?_
        refine rb_push ?_
        refine rb_cle (fun h => absurd h (by decide)) (fun _ => ?_)
        refine rb_aload rfl ?_
        refine rb_iload rfl ?_
        refine rb_push ?_
        refine rb_binL (z := 0) (by decide) ?_
        apply rb_callV1
        case hb => exact rfl
        case hcl => exact rfl
        case hc =>
          apply ex_X9_holder
          refine rn_step rfl ?_
          refine rb_push ?_
          refine rb_istore (lv' := [some (.ref 68), some (.int 0), some (.int (-1)), none]) rfl ?_
          refine rb_push ?_
          refine rb_istore (lv' := [some (.ref 68), some (.int 0), some (.int (-1)), some (.int 0)]) rfl ?_
          refine rb_goto ?_
          refine rn_step rfl ?_
          refine rb_iload rfl ?_
          refine rb_aload rfl ?_
          refine rb_getf (v := .ref 69) rfl ?_
          refine rb_push ?_
          refine rb_iald rfl (by decide) (show _ = some (0) from rfl) ?_
          refine rb_cge (fun _ => ?_) (fun h => absurd (by decide) h)
          refine rn_step rfl ?_
          refine rb_iload rfl ?_
          refine rb_ret rfl rfl
        apply rb_callS1
        case hcl => exact rfl
        case hc =>
          apply ex_X9_told0
          refine rn_step rfl ?_
          refine rb_iload rfl ?_
          refine rb_ige (fun h => absurd h (by decide)) (fun _ => ?_)
          refine rb_push ?_
          refine rb_goto ?_
          refine rn_step rfl ?_
          refine rb_ret rfl rfl
        refine rb_goto ?_
        refine rn_step rfl ?_
        refine rb_istore (lv' := [some (.ref 68), some (.int (nI n)), some (.int 3), some (.int (-1000000005))]) rfl ?_
        refine rb_aload rfl ?_
        apply rb_callV0v
        case hb => exact rfl
        case hcl => exact rfl
        case hc =>
          exact c_putsBack (d := 6) _ (okL_len (okL.sA (okL.sA (okL.sI (okL.sI s1_ok _ _ _) _ _ _) _ (by rw [List.length_take, okL_len (okL.sI (okL.sI s1_ok _ _ _) _ _ _) (c := 69) (n := 1461) (by decide) rfl (by decide), okL_len (okL.sI (okL.sI s1_ok _ _ _) _ _ _) (c := 74) (n := 89) (by decide) rfl (by decide)]; rfl)) _ (by simp only [List.length_set])) (c := 69) (n := 1461) (by decide) rfl (by decide)) (okL_len (okL.sA (okL.sA (okL.sI (okL.sI s1_ok _ _ _) _ _ _) _ (by rw [List.length_take, okL_len (okL.sI (okL.sI s1_ok _ _ _) _ _ _) (c := 69) (n := 1461) (by decide) rfl (by decide), okL_len (okL.sI (okL.sI s1_ok _ _ _) _ _ _) (c := 74) (n := 89) (by decide) rfl (by decide)]; rfl)) _ (by simp only [List.length_set])) (c := 74) (n := 89) (by decide) rfl (by decide))
        refine rb_iload rfl ?_
        refine rb_ret rfl rfl
      case h3 => exact (okL.sI (okL.sA (okL.sA (okL.sA (okL.sI (okL.sI s1_ok _ _ _) _ _ _) _ (by rw [List.length_take, okL_len (okL.sI (okL.sI s1_ok _ _ _) _ _ _) (c := 69) (n := 1461) (by decide) rfl (by decide), okL_len (okL.sI (okL.sI s1_ok _ _ _) _ _ _) (c := 74) (n := 89) (by decide) rfl (by decide)]; rfl)) _ (by simp only [List.length_set])) _ (by rw [List.length_append, List.length_take, List.length_drop, okL_len (okL.sA (okL.sA (okL.sI (okL.sI s1_ok _ _ _) _ _ _) _ (by rw [List.length_take, okL_len (okL.sI (okL.sI s1_ok _ _ _) _ _ _) (c := 69) (n := 1461) (by decide) rfl (by decide), okL_len (okL.sI (okL.sI s1_ok _ _ _) _ _ _) (c := 74) (n := 89) (by decide) rfl (by decide)]; rfl)) _ (by simp only [List.length_set])) (c := 69) (n := 1461) (by decide) rfl (by decide), okL_len (okL.sA (okL.sA (okL.sI (okL.sI s1_ok _ _ _) _ _ _) _ (by rw [List.length_take, okL_len (okL.sI (okL.sI s1_ok _ _ _) _ _ _) (c := 69) (n := 1461) (by decide) rfl (by decide), okL_len (okL.sI (okL.sI s1_ok _ _ _) _ _ _) (c := 74) (n := 89) (by decide) rfl (by decide)]; rfl)) _ (by simp only [List.length_set])) (c := 74) (n := 89) (by decide) rfl (by decide)]; rfl)) _ _ _)
      case h4 => exact rfl
    ·
      rcases ia_cut (c := 5) hlb hhb with ⟨hlb, hhb⟩ | ⟨hlb, hhb⟩
      ·
        obtain rfl : b = 4 := ia_one hlb hhb (by decide) (by decide)
        obtain ⟨zx, dx, hx⟩ := c_passDays0 (d := 3) s1 isT24 ⟨rfl, rfl, rfl⟩ hn
        have ht := c_thinks (d := 6) (sI (sI s1 24 14 zx) 24 13 dx) (okL_len s1_ok (c := 69) (n := 1461) (by decide) rfl (by decide)) (okL_len s1_ok (c := 74) (n := 89) (by decide) rfl (by decide))
        obtain ⟨zm, dm, hm⟩ := c_goesOn0 (d := 3) (sA (sI (sI s1 24 14 zx) 24 13 dx) 74 (((sI (sI s1 24 14 zx) 24 13 dx).2.1 69).take 89)) (z := 1) (dd := 0) rfl rfl rfl rfl hn
        apply p1_intro (v := (-1000000005))
        case h1 =>
          apply ex_X8_behind
          refine rn_step rfl ?_
          refine rb_iload rfl ?_
          refine rb_push ?_
          refine rb_push ?_
          apply rb_callS3
          case hcl => exact rfl
          case hc =>
            apply ex_X8_within
            refine rn_step rfl ?_
            refine rb_iload rfl ?_
            refine rb_iload rfl ?_
            refine rb_clt (fun h => absurd h (ia_nlt hla (by decide))) (fun _ => ?_)
            refine rb_iload rfl ?_
            refine rb_iload rfl ?_
            refine rb_cgt (fun h => absurd h (ia_ngt hha (by decide))) (fun _ => ?_)
            refine rb_push ?_
            refine rb_goto ?_
            refine rn_step rfl ?_
            refine rb_ret rfl rfl
          refine rb_ieq (fun h => absurd h (by decide)) (fun _ => ?_)
          refine rb_iload rfl ?_
          refine rb_push ?_
          refine rb_push ?_
          apply rb_callS3
          case hcl => exact rfl
          case hc =>
            apply ex_X8_within
            refine rn_step rfl ?_
            refine rb_iload rfl ?_
            refine rb_iload rfl ?_
            refine rb_clt (fun h => absurd h (by decide)) (fun _ => ?_)
            refine rb_iload rfl ?_
            refine rb_iload rfl ?_
            refine rb_cgt (fun h => absurd h (by decide)) (fun _ => ?_)
            refine rb_push ?_
            refine rb_goto ?_
            refine rn_step rfl ?_
            refine rb_ret rfl rfl
          refine rb_ine (fun _ => ?_) (fun h => absurd (by decide) h)
          refine rn_step rfl ?_
          refine rb_aload rfl ?_
          refine rb_getf (v := .ref 23) rfl ?_
          refine rb_aload rfl ?_
          refine rb_getf (v := .ref 1) rfl ?_
          refine rb_iload rfl ?_
          apply rb_callV2
          case hb => exact rfl
          case hcl => exact rfl
          case hc =>
            apply ex_X7_behindDays
            refine rn_step rfl ?_
            refine rb_aload rfl ?_
            refine rb_getf (v := .ref 24) rfl ?_
            refine rb_aload rfl ?_
            apply rb_callV1v
            case hb => exact rfl
            case hcl => exact rfl
            case hc =>
              exact p1_become24
            refine rb_aload rfl ?_
            refine rb_getf (v := .ref 24) rfl ?_
            refine rb_iload rfl ?_
            apply rb_callV1v
            case hb => exact rfl
            case hcl => exact rfl
            case hc =>
              exact hx
            refine rb_aload rfl ?_
            refine rb_getf (v := .ref 24) rfl ?_
            refine rb_ret rfl rfl
          refine rb_astore (lv' := [some (.ref 0), some (.int (nI n)), some (.int 4), some (.ref 24)]) rfl ?_
          refine rb_iload rfl ?_
          refine rb_swL (n := 6) (by decide) ?_
          refine rn_step rfl ?_
          refine rb_aload rfl ?_
          refine rb_getf (v := .ref 30) rfl ?_
          refine rb_iload rfl ?_
          refine rb_push ?_
          refine rb_binL (z := 1) (by decide) ?_
          refine rb_iald rfl (by decide) (show _ = some ((-1)) from rfl) ?_
          apply rb_callS1
          case hcl => exact rfl
          case hc =>
            apply ex_X8_stoneOrNone
            refine rn_step rfl ?_
            refine rb_iload rfl ?_
            refine rb_push ?_
            refine rb_cne (fun h => absurd (by decide) h) (fun _ => ?_)
            refine rb_push ?_
            refine rb_goto ?_
            refine rn_step rfl ?_
            refine rb_ret rfl rfl
          refine rb_ret rfl rfl
        case h2 =>
          apply ex_X9_behind
          refine rn_step rfl ?_
          refine rb_iload rfl ?_
          refine rb_push ?_
          refine rb_push ?_
          apply rb_callS3
          case hcl => exact rfl
          case hc =>
            apply ex_X9_in
            refine rn_step rfl ?_
            refine rb_iload rfl ?_
            refine rb_iload rfl ?_
            refine rb_clt (fun h => absurd h (ia_nlt hla (by decide))) (fun _ => ?_)
            refine rb_iload rfl ?_
            refine rb_iload rfl ?_
            refine rb_cgt (fun h => absurd h (ia_ngt hha (by decide))) (fun _ => ?_)
            refine rb_push ?_
            refine rb_goto ?_
            refine rn_step rfl ?_
            refine rb_ret rfl rfl
          refine rb_ieq (fun h => absurd h (by decide)) (fun _ => ?_)
          refine rb_iload rfl ?_
          refine rb_push ?_
          refine rb_push ?_
          apply rb_callS3
          case hcl => exact rfl
          case hc =>
            apply ex_X9_in
            refine rn_step rfl ?_
            refine rb_iload rfl ?_
            refine rb_iload rfl ?_
            refine rb_clt (fun h => absurd h (by decide)) (fun _ => ?_)
            refine rb_iload rfl ?_
            refine rb_iload rfl ?_
            refine rb_cgt (fun h => absurd h (by decide)) (fun _ => ?_)
            refine rb_push ?_
            refine rb_goto ?_
            refine rn_step rfl ?_
            refine rb_ret rfl rfl
          refine rb_ine (fun _ => ?_) (fun h => absurd (by decide) h)
          refine rn_step rfl ?_
          refine rb_aload rfl ?_
          apply rb_callV0v
          case hb => exact rfl
          case hcl => exact rfl
          case hc =>
            exact ht
          refine rb_aload rfl ?_
          refine rb_iload rfl ?_
          apply rb_callV1v
          case hb => exact rfl
          case hcl => exact rfl
          case hc =>
            exact hm
          refine rb_iload rfl ?_
          refine rb_push ?_
          refine rb_cle (fun h => absurd h (by decide)) (fun _ => ?_)
          refine rb_aload rfl ?_
          refine rb_iload rfl ?_
          refine rb_push ?_
          refine rb_binL (z := 1) (by decide) ?_
          apply rb_callV1
          case hb => exact rfl
          case hcl => exact rfl
          case hc =>
            apply ex_X9_holder
            refine rn_step rfl ?_
            refine rb_push ?_
            refine rb_istore (lv' := [some (.ref 68), some (.int 1), some (.int (-1)), none]) rfl ?_
            refine rb_push ?_
            refine rb_istore (lv' := [some (.ref 68), some (.int 1), some (.int (-1)), some (.int 0)]) rfl ?_
            refine rb_goto ?_
            refine rn_step rfl ?_
            refine rb_iload rfl ?_
            refine rb_aload rfl ?_
            refine rb_getf (v := .ref 69) rfl ?_
            refine rb_push ?_
            refine rb_iald rfl (by decide) (show _ = some (0) from rfl) ?_
            refine rb_cge (fun _ => ?_) (fun h => absurd (by decide) h)
            refine rn_step rfl ?_
            refine rb_iload rfl ?_
            refine rb_ret rfl rfl
          apply rb_callS1
          case hcl => exact rfl
          case hc =>
            apply ex_X9_told0
            refine rn_step rfl ?_
            refine rb_iload rfl ?_
            refine rb_ige (fun h => absurd h (by decide)) (fun _ => ?_)
            refine rb_push ?_
            refine rb_goto ?_
            refine rn_step rfl ?_
            refine rb_ret rfl rfl
          refine rb_goto ?_
          refine rn_step rfl ?_
          refine rb_istore (lv' := [some (.ref 68), some (.int (nI n)), some (.int 4), some (.int (-1000000005))]) rfl ?_
          refine rb_aload rfl ?_
          apply rb_callV0v
          case hb => exact rfl
          case hcl => exact rfl
          case hc =>
            exact c_putsBack (d := 6) _ (okL_len (okL.sA (okL.sA (okL.sI (okL.sI s1_ok _ _ _) _ _ _) _ (by rw [List.length_take, okL_len (okL.sI (okL.sI s1_ok _ _ _) _ _ _) (c := 69) (n := 1461) (by decide) rfl (by decide), okL_len (okL.sI (okL.sI s1_ok _ _ _) _ _ _) (c := 74) (n := 89) (by decide) rfl (by decide)]; rfl)) _ (by simp only [List.length_set])) (c := 69) (n := 1461) (by decide) rfl (by decide)) (okL_len (okL.sA (okL.sA (okL.sI (okL.sI s1_ok _ _ _) _ _ _) _ (by rw [List.length_take, okL_len (okL.sI (okL.sI s1_ok _ _ _) _ _ _) (c := 69) (n := 1461) (by decide) rfl (by decide), okL_len (okL.sI (okL.sI s1_ok _ _ _) _ _ _) (c := 74) (n := 89) (by decide) rfl (by decide)]; rfl)) _ (by simp only [List.length_set])) (c := 74) (n := 89) (by decide) rfl (by decide))
          refine rb_iload rfl ?_
          refine rb_ret rfl rfl
        case h3 => exact (okL.sI (okL.sA (okL.sA (okL.sA (okL.sI (okL.sI s1_ok _ _ _) _ _ _) _ (by rw [List.length_take, okL_len (okL.sI (okL.sI s1_ok _ _ _) _ _ _) (c := 69) (n := 1461) (by decide) rfl (by decide), okL_len (okL.sI (okL.sI s1_ok _ _ _) _ _ _) (c := 74) (n := 89) (by decide) rfl (by decide)]; rfl)) _ (by simp only [List.length_set])) _ (by rw [List.length_append, List.length_take, List.length_drop, okL_len (okL.sA (okL.sA (okL.sI (okL.sI s1_ok _ _ _) _ _ _) _ (by rw [List.length_take, okL_len (okL.sI (okL.sI s1_ok _ _ _) _ _ _) (c := 69) (n := 1461) (by decide) rfl (by decide), okL_len (okL.sI (okL.sI s1_ok _ _ _) _ _ _) (c := 74) (n := 89) (by decide) rfl (by decide)]; rfl)) _ (by simp only [List.length_set])) (c := 69) (n := 1461) (by decide) rfl (by decide), okL_len (okL.sA (okL.sA (okL.sI (okL.sI s1_ok _ _ _) _ _ _) _ (by rw [List.length_take, okL_len (okL.sI (okL.sI s1_ok _ _ _) _ _ _) (c := 69) (n := 1461) (by decide) rfl (by decide), okL_len (okL.sI (okL.sI s1_ok _ _ _) _ _ _) (c := 74) (n := 89) (by decide) rfl (by decide)]; rfl)) _ (by simp only [List.length_set])) (c := 74) (n := 89) (by decide) rfl (by decide)]; rfl)) _ _ _)
        case h4 => exact rfl
      ·
        rcases ia_cut (c := 6) hlb hhb with ⟨hlb, hhb⟩ | ⟨hlb, hhb⟩
        ·
          obtain rfl : b = 5 := ia_one hlb hhb (by decide) (by decide)
          obtain ⟨zx, dx, hx⟩ := c_passDays0 (d := 3) s1 isT24 ⟨rfl, rfl, rfl⟩ hn
          have ht := c_thinks (d := 6) (sI (sI s1 24 14 zx) 24 13 dx) (okL_len s1_ok (c := 69) (n := 1461) (by decide) rfl (by decide)) (okL_len s1_ok (c := 74) (n := 89) (by decide) rfl (by decide))
          obtain ⟨zm, dm, hm⟩ := c_goesOn0 (d := 3) (sA (sI (sI s1 24 14 zx) 24 13 dx) 74 (((sI (sI s1 24 14 zx) 24 13 dx).2.1 69).take 89)) (z := 1) (dd := 0) rfl rfl rfl rfl hn
          apply p1_intro (v := (-1000000005))
          case h1 =>
            apply ex_X8_behind
            refine rn_step rfl ?_
            refine rb_iload rfl ?_
            refine rb_push ?_
            refine rb_push ?_
            apply rb_callS3
            case hcl => exact rfl
            case hc =>
              apply ex_X8_within
              refine rn_step rfl ?_
              refine rb_iload rfl ?_
              refine rb_iload rfl ?_
              refine rb_clt (fun h => absurd h (ia_nlt hla (by decide))) (fun _ => ?_)
              refine rb_iload rfl ?_
              refine rb_iload rfl ?_
              refine rb_cgt (fun h => absurd h (ia_ngt hha (by decide))) (fun _ => ?_)
              refine rb_push ?_
              refine rb_goto ?_
              refine rn_step rfl ?_
              refine rb_ret rfl rfl
            refine rb_ieq (fun h => absurd h (by decide)) (fun _ => ?_)
            refine rb_iload rfl ?_
            refine rb_push ?_
            refine rb_push ?_
            apply rb_callS3
            case hcl => exact rfl
            case hc =>
              apply ex_X8_within
              refine rn_step rfl ?_
              refine rb_iload rfl ?_
              refine rb_iload rfl ?_
              refine rb_clt (fun h => absurd h (by decide)) (fun _ => ?_)
              refine rb_iload rfl ?_
              refine rb_iload rfl ?_
              refine rb_cgt (fun h => absurd h (by decide)) (fun _ => ?_)
              refine rb_push ?_
              refine rb_goto ?_
              refine rn_step rfl ?_
              refine rb_ret rfl rfl
            refine rb_ine (fun _ => ?_) (fun h => absurd (by decide) h)
            refine rn_step rfl ?_
            refine rb_aload rfl ?_
            refine rb_getf (v := .ref 23) rfl ?_
            refine rb_aload rfl ?_
            refine rb_getf (v := .ref 1) rfl ?_
            refine rb_iload rfl ?_
            apply rb_callV2
            case hb => exact rfl
            case hcl => exact rfl
            case hc =>
              apply ex_X7_behindDays
              refine rn_step rfl ?_
              refine rb_aload rfl ?_
              refine rb_getf (v := .ref 24) rfl ?_
              refine rb_aload rfl ?_
              apply rb_callV1v
              case hb => exact rfl
              case hcl => exact rfl
              case hc =>
                exact p1_become24
              refine rb_aload rfl ?_
              refine rb_getf (v := .ref 24) rfl ?_
              refine rb_iload rfl ?_
              apply rb_callV1v
              case hb => exact rfl
              case hcl => exact rfl
              case hc =>
                exact hx
              refine rb_aload rfl ?_
              refine rb_getf (v := .ref 24) rfl ?_
              refine rb_ret rfl rfl
            refine rb_astore (lv' := [some (.ref 0), some (.int (nI n)), some (.int 5), some (.ref 24)]) rfl ?_
            refine rb_iload rfl ?_
            refine rb_swL (n := 6) (by decide) ?_
            refine rn_step rfl ?_
            refine rb_aload rfl ?_
            refine rb_getf (v := .ref 30) rfl ?_
            refine rb_iload rfl ?_
            refine rb_push ?_
            refine rb_binL (z := 2) (by decide) ?_
            refine rb_iald rfl (by decide) (show _ = some ((-1)) from rfl) ?_
            apply rb_callS1
            case hcl => exact rfl
            case hc =>
              apply ex_X8_stoneOrNone
              refine rn_step rfl ?_
              refine rb_iload rfl ?_
              refine rb_push ?_
              refine rb_cne (fun h => absurd (by decide) h) (fun _ => ?_)
              refine rb_push ?_
              refine rb_goto ?_
              refine rn_step rfl ?_
              refine rb_ret rfl rfl
            refine rb_ret rfl rfl
          case h2 =>
            apply ex_X9_behind
            refine rn_step rfl ?_
            refine rb_iload rfl ?_
            refine rb_push ?_
            refine rb_push ?_
            apply rb_callS3
            case hcl => exact rfl
            case hc =>
              apply ex_X9_in
              refine rn_step rfl ?_
              refine rb_iload rfl ?_
              refine rb_iload rfl ?_
              refine rb_clt (fun h => absurd h (ia_nlt hla (by decide))) (fun _ => ?_)
              refine rb_iload rfl ?_
              refine rb_iload rfl ?_
              refine rb_cgt (fun h => absurd h (ia_ngt hha (by decide))) (fun _ => ?_)
              refine rb_push ?_
              refine rb_goto ?_
              refine rn_step rfl ?_
              refine rb_ret rfl rfl
            refine rb_ieq (fun h => absurd h (by decide)) (fun _ => ?_)
            refine rb_iload rfl ?_
            refine rb_push ?_
            refine rb_push ?_
            apply rb_callS3
            case hcl => exact rfl
            case hc =>
              apply ex_X9_in
              refine rn_step rfl ?_
              refine rb_iload rfl ?_
              refine rb_iload rfl ?_
              refine rb_clt (fun h => absurd h (by decide)) (fun _ => ?_)
              refine rb_iload rfl ?_
              refine rb_iload rfl ?_
              refine rb_cgt (fun h => absurd h (by decide)) (fun _ => ?_)
              refine rb_push ?_
              refine rb_goto ?_
              refine rn_step rfl ?_
              refine rb_ret rfl rfl
            refine rb_ine (fun _ => ?_) (fun h => absurd (by decide) h)
            refine rn_step rfl ?_
            refine rb_aload rfl ?_
            apply rb_callV0v
            case hb => exact rfl
            case hcl => exact rfl
            case hc =>
              exact ht
            refine rb_aload rfl ?_
            refine rb_iload rfl ?_
            apply rb_callV1v
            case hb => exact rfl
            case hcl => exact rfl
            case hc =>
              exact hm
            refine rb_iload rfl ?_
            refine rb_push ?_
            refine rb_cle (fun h => absurd h (by decide)) (fun _ => ?_)
            refine rb_aload rfl ?_
            refine rb_iload rfl ?_
            refine rb_push ?_
            refine rb_binL (z := 2) (by decide) ?_
            apply rb_callV1
            case hb => exact rfl
            case hcl => exact rfl
            case hc =>
              apply ex_X9_holder
              refine rn_step rfl ?_
              refine rb_push ?_
              refine rb_istore (lv' := [some (.ref 68), some (.int 2), some (.int (-1)), none]) rfl ?_
              refine rb_push ?_
              refine rb_istore (lv' := [some (.ref 68), some (.int 2), some (.int (-1)), some (.int 0)]) rfl ?_
              refine rb_goto ?_
              refine rn_step rfl ?_
              refine rb_iload rfl ?_
              refine rb_aload rfl ?_
              refine rb_getf (v := .ref 69) rfl ?_
              refine rb_push ?_
              refine rb_iald rfl (by decide) (show _ = some (0) from rfl) ?_
              refine rb_cge (fun _ => ?_) (fun h => absurd (by decide) h)
              refine rn_step rfl ?_
              refine rb_iload rfl ?_
              refine rb_ret rfl rfl
            apply rb_callS1
            case hcl => exact rfl
            case hc =>
              apply ex_X9_told0
              refine rn_step rfl ?_
              refine rb_iload rfl ?_
              refine rb_ige (fun h => absurd h (by decide)) (fun _ => ?_)
              refine rb_push ?_
              refine rb_goto ?_
              refine rn_step rfl ?_
              refine rb_ret rfl rfl
            refine rb_goto ?_
            refine rn_step rfl ?_
            refine rb_istore (lv' := [some (.ref 68), some (.int (nI n)), some (.int 5), some (.int (-1000000005))]) rfl ?_
            refine rb_aload rfl ?_
            apply rb_callV0v
            case hb => exact rfl
            case hcl => exact rfl
            case hc =>
              exact c_putsBack (d := 6) _ (okL_len (okL.sA (okL.sA (okL.sI (okL.sI s1_ok _ _ _) _ _ _) _ (by rw [List.length_take, okL_len (okL.sI (okL.sI s1_ok _ _ _) _ _ _) (c := 69) (n := 1461) (by decide) rfl (by decide), okL_len (okL.sI (okL.sI s1_ok _ _ _) _ _ _) (c := 74) (n := 89) (by decide) rfl (by decide)]; rfl)) _ (by simp only [List.length_set])) (c := 69) (n := 1461) (by decide) rfl (by decide)) (okL_len (okL.sA (okL.sA (okL.sI (okL.sI s1_ok _ _ _) _ _ _) _ (by rw [List.length_take, okL_len (okL.sI (okL.sI s1_ok _ _ _) _ _ _) (c := 69) (n := 1461) (by decide) rfl (by decide), okL_len (okL.sI (okL.sI s1_ok _ _ _) _ _ _) (c := 74) (n := 89) (by decide) rfl (by decide)]; rfl)) _ (by simp only [List.length_set])) (c := 74) (n := 89) (by decide) rfl (by decide))
            refine rb_iload rfl ?_
            refine rb_ret rfl rfl
          case h3 => exact (okL.sI (okL.sA (okL.sA (okL.sA (okL.sI (okL.sI s1_ok _ _ _) _ _ _) _ (by rw [List.length_take, okL_len (okL.sI (okL.sI s1_ok _ _ _) _ _ _) (c := 69) (n := 1461) (by decide) rfl (by decide), okL_len (okL.sI (okL.sI s1_ok _ _ _) _ _ _) (c := 74) (n := 89) (by decide) rfl (by decide)]; rfl)) _ (by simp only [List.length_set])) _ (by rw [List.length_append, List.length_take, List.length_drop, okL_len (okL.sA (okL.sA (okL.sI (okL.sI s1_ok _ _ _) _ _ _) _ (by rw [List.length_take, okL_len (okL.sI (okL.sI s1_ok _ _ _) _ _ _) (c := 69) (n := 1461) (by decide) rfl (by decide), okL_len (okL.sI (okL.sI s1_ok _ _ _) _ _ _) (c := 74) (n := 89) (by decide) rfl (by decide)]; rfl)) _ (by simp only [List.length_set])) (c := 69) (n := 1461) (by decide) rfl (by decide), okL_len (okL.sA (okL.sA (okL.sI (okL.sI s1_ok _ _ _) _ _ _) _ (by rw [List.length_take, okL_len (okL.sI (okL.sI s1_ok _ _ _) _ _ _) (c := 69) (n := 1461) (by decide) rfl (by decide), okL_len (okL.sI (okL.sI s1_ok _ _ _) _ _ _) (c := 74) (n := 89) (by decide) rfl (by decide)]; rfl)) _ (by simp only [List.length_set])) (c := 74) (n := 89) (by decide) rfl (by decide)]; rfl)) _ _ _)
          case h4 => exact rfl
        ·
          rcases ia_cut (c := 7) hlb hhb with ⟨hlb, hhb⟩ | ⟨hlb, hhb⟩
          ·
            obtain rfl : b = 6 := ia_one hlb hhb (by decide) (by decide)
            obtain ⟨zx, dx, hx⟩ := c_passDays0 (d := 3) s1 isT24 ⟨rfl, rfl, rfl⟩ hn
            have ht := c_thinks (d := 6) (sI (sI s1 24 14 zx) 24 13 dx) (okL_len s1_ok (c := 69) (n := 1461) (by decide) rfl (by decide)) (okL_len s1_ok (c := 74) (n := 89) (by decide) rfl (by decide))
            obtain ⟨zm, dm, hm⟩ := c_goesOn0 (d := 3) (sA (sI (sI s1 24 14 zx) 24 13 dx) 74 (((sI (sI s1 24 14 zx) 24 13 dx).2.1 69).take 89)) (z := 1) (dd := 0) rfl rfl rfl rfl hn
            apply p1_intro (v := (-1000000005))
            case h1 =>
              apply ex_X8_behind
              refine rn_step rfl ?_
              refine rb_iload rfl ?_
              refine rb_push ?_
              refine rb_push ?_
              apply rb_callS3
              case hcl => exact rfl
              case hc =>
                apply ex_X8_within
                refine rn_step rfl ?_
                refine rb_iload rfl ?_
                refine rb_iload rfl ?_
                refine rb_clt (fun h => absurd h (ia_nlt hla (by decide))) (fun _ => ?_)
                refine rb_iload rfl ?_
                refine rb_iload rfl ?_
                refine rb_cgt (fun h => absurd h (ia_ngt hha (by decide))) (fun _ => ?_)
                refine rb_push ?_
                refine rb_goto ?_
                refine rn_step rfl ?_
                refine rb_ret rfl rfl
              refine rb_ieq (fun h => absurd h (by decide)) (fun _ => ?_)
              refine rb_iload rfl ?_
              refine rb_push ?_
              refine rb_push ?_
              apply rb_callS3
              case hcl => exact rfl
              case hc =>
                apply ex_X8_within
                refine rn_step rfl ?_
                refine rb_iload rfl ?_
                refine rb_iload rfl ?_
                refine rb_clt (fun h => absurd h (by decide)) (fun _ => ?_)
                refine rb_iload rfl ?_
                refine rb_iload rfl ?_
                refine rb_cgt (fun h => absurd h (by decide)) (fun _ => ?_)
                refine rb_push ?_
                refine rb_goto ?_
                refine rn_step rfl ?_
                refine rb_ret rfl rfl
              refine rb_ine (fun _ => ?_) (fun h => absurd (by decide) h)
              refine rn_step rfl ?_
              refine rb_aload rfl ?_
              refine rb_getf (v := .ref 23) rfl ?_
              refine rb_aload rfl ?_
              refine rb_getf (v := .ref 1) rfl ?_
              refine rb_iload rfl ?_
              apply rb_callV2
              case hb => exact rfl
              case hcl => exact rfl
              case hc =>
                apply ex_X7_behindDays
                refine rn_step rfl ?_
                refine rb_aload rfl ?_
                refine rb_getf (v := .ref 24) rfl ?_
                refine rb_aload rfl ?_
                apply rb_callV1v
                case hb => exact rfl
                case hcl => exact rfl
                case hc =>
                  exact p1_become24
                refine rb_aload rfl ?_
                refine rb_getf (v := .ref 24) rfl ?_
                refine rb_iload rfl ?_
                apply rb_callV1v
                case hb => exact rfl
                case hcl => exact rfl
                case hc =>
                  exact hx
                refine rb_aload rfl ?_
                refine rb_getf (v := .ref 24) rfl ?_
                refine rb_ret rfl rfl
              refine rb_astore (lv' := [some (.ref 0), some (.int (nI n)), some (.int 6), some (.ref 24)]) rfl ?_
              refine rb_iload rfl ?_
              refine rb_swL (n := 6) (by decide) ?_
              refine rn_step rfl ?_
              refine rb_aload rfl ?_
              refine rb_getf (v := .ref 30) rfl ?_
              refine rb_iload rfl ?_
              refine rb_push ?_
              refine rb_binL (z := 3) (by decide) ?_
              refine rb_iald rfl (by decide) (show _ = some ((-1)) from rfl) ?_
              apply rb_callS1
              case hcl => exact rfl
              case hc =>
                apply ex_X8_stoneOrNone
                refine rn_step rfl ?_
                refine rb_iload rfl ?_
                refine rb_push ?_
                refine rb_cne (fun h => absurd (by decide) h) (fun _ => ?_)
                refine rb_push ?_
                refine rb_goto ?_
                refine rn_step rfl ?_
                refine rb_ret rfl rfl
              refine rb_ret rfl rfl
            case h2 =>
              apply ex_X9_behind
              refine rn_step rfl ?_
              refine rb_iload rfl ?_
              refine rb_push ?_
              refine rb_push ?_
              apply rb_callS3
              case hcl => exact rfl
              case hc =>
                apply ex_X9_in
                refine rn_step rfl ?_
                refine rb_iload rfl ?_
                refine rb_iload rfl ?_
                refine rb_clt (fun h => absurd h (ia_nlt hla (by decide))) (fun _ => ?_)
                refine rb_iload rfl ?_
                refine rb_iload rfl ?_
                refine rb_cgt (fun h => absurd h (ia_ngt hha (by decide))) (fun _ => ?_)
                refine rb_push ?_
                refine rb_goto ?_
                refine rn_step rfl ?_
                refine rb_ret rfl rfl
              refine rb_ieq (fun h => absurd h (by decide)) (fun _ => ?_)
              refine rb_iload rfl ?_
              refine rb_push ?_
              refine rb_push ?_
              apply rb_callS3
              case hcl => exact rfl
              case hc =>
                apply ex_X9_in
                refine rn_step rfl ?_
                refine rb_iload rfl ?_
                refine rb_iload rfl ?_
                refine rb_clt (fun h => absurd h (by decide)) (fun _ => ?_)
                refine rb_iload rfl ?_
                refine rb_iload rfl ?_
                refine rb_cgt (fun h => absurd h (by decide)) (fun _ => ?_)
                refine rb_push ?_
                refine rb_goto ?_
                refine rn_step rfl ?_
                refine rb_ret rfl rfl
              refine rb_ine (fun _ => ?_) (fun h => absurd (by decide) h)
              refine rn_step rfl ?_
              refine rb_aload rfl ?_
              apply rb_callV0v
              case hb => exact rfl
              case hcl => exact rfl
              case hc =>
                exact ht
              refine rb_aload rfl ?_
              refine rb_iload rfl ?_
              apply rb_callV1v
              case hb => exact rfl
              case hcl => exact rfl
              case hc =>
                exact hm
              refine rb_iload rfl ?_
              refine rb_push ?_
              refine rb_cle (fun h => absurd h (by decide)) (fun _ => ?_)
              refine rb_aload rfl ?_
              refine rb_iload rfl ?_
              refine rb_push ?_
              refine rb_binL (z := 3) (by decide) ?_
              apply rb_callV1
              case hb => exact rfl
              case hcl => exact rfl
              case hc =>
                apply ex_X9_holder
                refine rn_step rfl ?_
                refine rb_push ?_
                refine rb_istore (lv' := [some (.ref 68), some (.int 3), some (.int (-1)), none]) rfl ?_
                refine rb_push ?_
                refine rb_istore (lv' := [some (.ref 68), some (.int 3), some (.int (-1)), some (.int 0)]) rfl ?_
                refine rb_goto ?_
                refine rn_step rfl ?_
                refine rb_iload rfl ?_
                refine rb_aload rfl ?_
                refine rb_getf (v := .ref 69) rfl ?_
                refine rb_push ?_
                refine rb_iald rfl (by decide) (show _ = some (0) from rfl) ?_
                refine rb_cge (fun _ => ?_) (fun h => absurd (by decide) h)
                refine rn_step rfl ?_
                refine rb_iload rfl ?_
                refine rb_ret rfl rfl
              apply rb_callS1
              case hcl => exact rfl
              case hc =>
                apply ex_X9_told0
                refine rn_step rfl ?_
                refine rb_iload rfl ?_
                refine rb_ige (fun h => absurd h (by decide)) (fun _ => ?_)
                refine rb_push ?_
                refine rb_goto ?_
                refine rn_step rfl ?_
                refine rb_ret rfl rfl
              refine rb_goto ?_
              refine rn_step rfl ?_
              refine rb_istore (lv' := [some (.ref 68), some (.int (nI n)), some (.int 6), some (.int (-1000000005))]) rfl ?_
              refine rb_aload rfl ?_
              apply rb_callV0v
              case hb => exact rfl
              case hcl => exact rfl
              case hc =>
                exact c_putsBack (d := 6) _ (okL_len (okL.sA (okL.sA (okL.sI (okL.sI s1_ok _ _ _) _ _ _) _ (by rw [List.length_take, okL_len (okL.sI (okL.sI s1_ok _ _ _) _ _ _) (c := 69) (n := 1461) (by decide) rfl (by decide), okL_len (okL.sI (okL.sI s1_ok _ _ _) _ _ _) (c := 74) (n := 89) (by decide) rfl (by decide)]; rfl)) _ (by simp only [List.length_set])) (c := 69) (n := 1461) (by decide) rfl (by decide)) (okL_len (okL.sA (okL.sA (okL.sI (okL.sI s1_ok _ _ _) _ _ _) _ (by rw [List.length_take, okL_len (okL.sI (okL.sI s1_ok _ _ _) _ _ _) (c := 69) (n := 1461) (by decide) rfl (by decide), okL_len (okL.sI (okL.sI s1_ok _ _ _) _ _ _) (c := 74) (n := 89) (by decide) rfl (by decide)]; rfl)) _ (by simp only [List.length_set])) (c := 74) (n := 89) (by decide) rfl (by decide))
              refine rb_iload rfl ?_
              refine rb_ret rfl rfl
            case h3 => exact (okL.sI (okL.sA (okL.sA (okL.sA (okL.sI (okL.sI s1_ok _ _ _) _ _ _) _ (by rw [List.length_take, okL_len (okL.sI (okL.sI s1_ok _ _ _) _ _ _) (c := 69) (n := 1461) (by decide) rfl (by decide), okL_len (okL.sI (okL.sI s1_ok _ _ _) _ _ _) (c := 74) (n := 89) (by decide) rfl (by decide)]; rfl)) _ (by simp only [List.length_set])) _ (by rw [List.length_append, List.length_take, List.length_drop, okL_len (okL.sA (okL.sA (okL.sI (okL.sI s1_ok _ _ _) _ _ _) _ (by rw [List.length_take, okL_len (okL.sI (okL.sI s1_ok _ _ _) _ _ _) (c := 69) (n := 1461) (by decide) rfl (by decide), okL_len (okL.sI (okL.sI s1_ok _ _ _) _ _ _) (c := 74) (n := 89) (by decide) rfl (by decide)]; rfl)) _ (by simp only [List.length_set])) (c := 69) (n := 1461) (by decide) rfl (by decide), okL_len (okL.sA (okL.sA (okL.sI (okL.sI s1_ok _ _ _) _ _ _) _ (by rw [List.length_take, okL_len (okL.sI (okL.sI s1_ok _ _ _) _ _ _) (c := 69) (n := 1461) (by decide) rfl (by decide), okL_len (okL.sI (okL.sI s1_ok _ _ _) _ _ _) (c := 74) (n := 89) (by decide) rfl (by decide)]; rfl)) _ (by simp only [List.length_set])) (c := 74) (n := 89) (by decide) rfl (by decide)]; rfl)) _ _ _)
            case h4 => exact rfl
          ·
            rcases ia_cut (c := 8) hlb hhb with ⟨hlb, hhb⟩ | ⟨hlb, hhb⟩
            ·
              obtain rfl : b = 7 := ia_one hlb hhb (by decide) (by decide)
              obtain ⟨zx, dx, hx⟩ := c_passDays0 (d := 3) s1 isT24 ⟨rfl, rfl, rfl⟩ hn
              have ht := c_thinks (d := 6) (sI (sI s1 24 14 zx) 24 13 dx) (okL_len s1_ok (c := 69) (n := 1461) (by decide) rfl (by decide)) (okL_len s1_ok (c := 74) (n := 89) (by decide) rfl (by decide))
              obtain ⟨zm, dm, hm⟩ := c_goesOn0 (d := 3) (sA (sI (sI s1 24 14 zx) 24 13 dx) 74 (((sI (sI s1 24 14 zx) 24 13 dx).2.1 69).take 89)) (z := 1) (dd := 0) rfl rfl rfl rfl hn
              apply p1_intro (v := (-1000000005))
              case h1 =>
                apply ex_X8_behind
                refine rn_step rfl ?_
                refine rb_iload rfl ?_
                refine rb_push ?_
                refine rb_push ?_
                apply rb_callS3
                case hcl => exact rfl
                case hc =>
                  apply ex_X8_within
                  refine rn_step rfl ?_
                  refine rb_iload rfl ?_
                  refine rb_iload rfl ?_
                  refine rb_clt (fun h => absurd h (ia_nlt hla (by decide))) (fun _ => ?_)
                  refine rb_iload rfl ?_
                  refine rb_iload rfl ?_
                  refine rb_cgt (fun h => absurd h (ia_ngt hha (by decide))) (fun _ => ?_)
                  refine rb_push ?_
                  refine rb_goto ?_
                  refine rn_step rfl ?_
                  refine rb_ret rfl rfl
                refine rb_ieq (fun h => absurd h (by decide)) (fun _ => ?_)
                refine rb_iload rfl ?_
                refine rb_push ?_
                refine rb_push ?_
                apply rb_callS3
                case hcl => exact rfl
                case hc =>
                  apply ex_X8_within
                  refine rn_step rfl ?_
                  refine rb_iload rfl ?_
                  refine rb_iload rfl ?_
                  refine rb_clt (fun h => absurd h (by decide)) (fun _ => ?_)
                  refine rb_iload rfl ?_
                  refine rb_iload rfl ?_
                  refine rb_cgt (fun h => absurd h (by decide)) (fun _ => ?_)
                  refine rb_push ?_
                  refine rb_goto ?_
                  refine rn_step rfl ?_
                  refine rb_ret rfl rfl
                refine rb_ine (fun _ => ?_) (fun h => absurd (by decide) h)
                refine rn_step rfl ?_
                refine rb_aload rfl ?_
                refine rb_getf (v := .ref 23) rfl ?_
                refine rb_aload rfl ?_
                refine rb_getf (v := .ref 1) rfl ?_
                refine rb_iload rfl ?_
                apply rb_callV2
                case hb => exact rfl
                case hcl => exact rfl
                case hc =>
                  apply ex_X7_behindDays
                  refine rn_step rfl ?_
                  refine rb_aload rfl ?_
                  refine rb_getf (v := .ref 24) rfl ?_
                  refine rb_aload rfl ?_
                  apply rb_callV1v
                  case hb => exact rfl
                  case hcl => exact rfl
                  case hc =>
                    exact p1_become24
                  refine rb_aload rfl ?_
                  refine rb_getf (v := .ref 24) rfl ?_
                  refine rb_iload rfl ?_
                  apply rb_callV1v
                  case hb => exact rfl
                  case hcl => exact rfl
                  case hc =>
                    exact hx
                  refine rb_aload rfl ?_
                  refine rb_getf (v := .ref 24) rfl ?_
                  refine rb_ret rfl rfl
                refine rb_astore (lv' := [some (.ref 0), some (.int (nI n)), some (.int 7), some (.ref 24)]) rfl ?_
                refine rb_iload rfl ?_
                refine rb_swL (n := 6) (by decide) ?_
                refine rn_step rfl ?_
                refine rb_aload rfl ?_
                refine rb_getf (v := .ref 30) rfl ?_
                refine rb_iload rfl ?_
                refine rb_push ?_
                refine rb_binL (z := 4) (by decide) ?_
                refine rb_iald rfl (by decide) (show _ = some ((-1)) from rfl) ?_
                apply rb_callS1
                case hcl => exact rfl
                case hc =>
                  apply ex_X8_stoneOrNone
                  refine rn_step rfl ?_
                  refine rb_iload rfl ?_
                  refine rb_push ?_
                  refine rb_cne (fun h => absurd (by decide) h) (fun _ => ?_)
                  refine rb_push ?_
                  refine rb_goto ?_
                  refine rn_step rfl ?_
                  refine rb_ret rfl rfl
                refine rb_ret rfl rfl
              case h2 =>
                apply ex_X9_behind
                refine rn_step rfl ?_
                refine rb_iload rfl ?_
                refine rb_push ?_
                refine rb_push ?_
                apply rb_callS3
                case hcl => exact rfl
                case hc =>
                  apply ex_X9_in
                  refine rn_step rfl ?_
                  refine rb_iload rfl ?_
                  refine rb_iload rfl ?_
                  refine rb_clt (fun h => absurd h (ia_nlt hla (by decide))) (fun _ => ?_)
                  refine rb_iload rfl ?_
                  refine rb_iload rfl ?_
                  refine rb_cgt (fun h => absurd h (ia_ngt hha (by decide))) (fun _ => ?_)
                  refine rb_push ?_
                  refine rb_goto ?_
                  refine rn_step rfl ?_
                  refine rb_ret rfl rfl
                refine rb_ieq (fun h => absurd h (by decide)) (fun _ => ?_)
                refine rb_iload rfl ?_
                refine rb_push ?_
                refine rb_push ?_
                apply rb_callS3
                case hcl => exact rfl
                case hc =>
                  apply ex_X9_in
                  refine rn_step rfl ?_
                  refine rb_iload rfl ?_
                  refine rb_iload rfl ?_
                  refine rb_clt (fun h => absurd h (by decide)) (fun _ => ?_)
                  refine rb_iload rfl ?_
                  refine rb_iload rfl ?_
                  refine rb_cgt (fun h => absurd h (by decide)) (fun _ => ?_)
                  refine rb_push ?_
                  refine rb_goto ?_
                  refine rn_step rfl ?_
                  refine rb_ret rfl rfl
                refine rb_ine (fun _ => ?_) (fun h => absurd (by decide) h)
                refine rn_step rfl ?_
                refine rb_aload rfl ?_
                apply rb_callV0v
                case hb => exact rfl
                case hcl => exact rfl
                case hc =>
                  exact ht
                refine rb_aload rfl ?_
                refine rb_iload rfl ?_
                apply rb_callV1v
                case hb => exact rfl
                case hcl => exact rfl
                case hc =>
                  exact hm
                refine rb_iload rfl ?_
                refine rb_push ?_
                refine rb_cle (fun h => absurd h (by decide)) (fun _ => ?_)
                refine rb_aload rfl ?_
                refine rb_iload rfl ?_
                refine rb_push ?_
                refine rb_binL (z := 4) (by decide) ?_
                apply rb_callV1
                case hb => exact rfl
                case hcl => exact rfl
                case hc =>
                  apply ex_X9_holder
                  refine rn_step rfl ?_
                  refine rb_push ?_
                  refine rb_istore (lv' := [some (.ref 68), some (.int 4), some (.int (-1)), none]) rfl ?_
                  refine rb_push ?_
                  refine rb_istore (lv' := [some (.ref 68), some (.int 4), some (.int (-1)), some (.int 0)]) rfl ?_
                  refine rb_goto ?_
                  refine rn_step rfl ?_
                  refine rb_iload rfl ?_
                  refine rb_aload rfl ?_
                  refine rb_getf (v := .ref 69) rfl ?_
                  refine rb_push ?_
                  refine rb_iald rfl (by decide) (show _ = some (0) from rfl) ?_
                  refine rb_cge (fun _ => ?_) (fun h => absurd (by decide) h)
                  refine rn_step rfl ?_
                  refine rb_iload rfl ?_
                  refine rb_ret rfl rfl
                apply rb_callS1
                case hcl => exact rfl
                case hc =>
                  apply ex_X9_told0
                  refine rn_step rfl ?_
                  refine rb_iload rfl ?_
                  refine rb_ige (fun h => absurd h (by decide)) (fun _ => ?_)
                  refine rb_push ?_
                  refine rb_goto ?_
                  refine rn_step rfl ?_
                  refine rb_ret rfl rfl
                refine rb_goto ?_
                refine rn_step rfl ?_
                refine rb_istore (lv' := [some (.ref 68), some (.int (nI n)), some (.int 7), some (.int (-1000000005))]) rfl ?_
                refine rb_aload rfl ?_
                apply rb_callV0v
                case hb => exact rfl
                case hcl => exact rfl
                case hc =>
                  exact c_putsBack (d := 6) _ (okL_len (okL.sA (okL.sA (okL.sI (okL.sI s1_ok _ _ _) _ _ _) _ (by rw [List.length_take, okL_len (okL.sI (okL.sI s1_ok _ _ _) _ _ _) (c := 69) (n := 1461) (by decide) rfl (by decide), okL_len (okL.sI (okL.sI s1_ok _ _ _) _ _ _) (c := 74) (n := 89) (by decide) rfl (by decide)]; rfl)) _ (by simp only [List.length_set])) (c := 69) (n := 1461) (by decide) rfl (by decide)) (okL_len (okL.sA (okL.sA (okL.sI (okL.sI s1_ok _ _ _) _ _ _) _ (by rw [List.length_take, okL_len (okL.sI (okL.sI s1_ok _ _ _) _ _ _) (c := 69) (n := 1461) (by decide) rfl (by decide), okL_len (okL.sI (okL.sI s1_ok _ _ _) _ _ _) (c := 74) (n := 89) (by decide) rfl (by decide)]; rfl)) _ (by simp only [List.length_set])) (c := 74) (n := 89) (by decide) rfl (by decide))
                refine rb_iload rfl ?_
                refine rb_ret rfl rfl
              case h3 => exact (okL.sI (okL.sA (okL.sA (okL.sA (okL.sI (okL.sI s1_ok _ _ _) _ _ _) _ (by rw [List.length_take, okL_len (okL.sI (okL.sI s1_ok _ _ _) _ _ _) (c := 69) (n := 1461) (by decide) rfl (by decide), okL_len (okL.sI (okL.sI s1_ok _ _ _) _ _ _) (c := 74) (n := 89) (by decide) rfl (by decide)]; rfl)) _ (by simp only [List.length_set])) _ (by rw [List.length_append, List.length_take, List.length_drop, okL_len (okL.sA (okL.sA (okL.sI (okL.sI s1_ok _ _ _) _ _ _) _ (by rw [List.length_take, okL_len (okL.sI (okL.sI s1_ok _ _ _) _ _ _) (c := 69) (n := 1461) (by decide) rfl (by decide), okL_len (okL.sI (okL.sI s1_ok _ _ _) _ _ _) (c := 74) (n := 89) (by decide) rfl (by decide)]; rfl)) _ (by simp only [List.length_set])) (c := 69) (n := 1461) (by decide) rfl (by decide), okL_len (okL.sA (okL.sA (okL.sI (okL.sI s1_ok _ _ _) _ _ _) _ (by rw [List.length_take, okL_len (okL.sI (okL.sI s1_ok _ _ _) _ _ _) (c := 69) (n := 1461) (by decide) rfl (by decide), okL_len (okL.sI (okL.sI s1_ok _ _ _) _ _ _) (c := 74) (n := 89) (by decide) rfl (by decide)]; rfl)) _ (by simp only [List.length_set])) (c := 74) (n := 89) (by decide) rfl (by decide)]; rfl)) _ _ _)
              case h4 => exact rfl
            ·
              rcases ia_cut (c := 9) hlb hhb with ⟨hlb, hhb⟩ | ⟨hlb, hhb⟩
              ·
                obtain rfl : b = 8 := ia_one hlb hhb (by decide) (by decide)
                obtain ⟨zx, dx, hx⟩ := c_passDays0 (d := 3) s1 isT24 ⟨rfl, rfl, rfl⟩ hn
                have ht := c_thinks (d := 6) (sI (sI s1 24 14 zx) 24 13 dx) (okL_len s1_ok (c := 69) (n := 1461) (by decide) rfl (by decide)) (okL_len s1_ok (c := 74) (n := 89) (by decide) rfl (by decide))
                obtain ⟨zm, dm, hm⟩ := c_goesOn0 (d := 3) (sA (sI (sI s1 24 14 zx) 24 13 dx) 74 (((sI (sI s1 24 14 zx) 24 13 dx).2.1 69).take 89)) (z := 1) (dd := 0) rfl rfl rfl rfl hn
                apply p1_intro (v := (-1000000005))
                case h1 =>
                  apply ex_X8_behind
                  refine rn_step rfl ?_
                  refine rb_iload rfl ?_
                  refine rb_push ?_
                  refine rb_push ?_
                  apply rb_callS3
                  case hcl => exact rfl
                  case hc =>
                    apply ex_X8_within
                    refine rn_step rfl ?_
                    refine rb_iload rfl ?_
                    refine rb_iload rfl ?_
                    refine rb_clt (fun h => absurd h (ia_nlt hla (by decide))) (fun _ => ?_)
                    refine rb_iload rfl ?_
                    refine rb_iload rfl ?_
                    refine rb_cgt (fun h => absurd h (ia_ngt hha (by decide))) (fun _ => ?_)
                    refine rb_push ?_
                    refine rb_goto ?_
                    refine rn_step rfl ?_
                    refine rb_ret rfl rfl
                  refine rb_ieq (fun h => absurd h (by decide)) (fun _ => ?_)
                  refine rb_iload rfl ?_
                  refine rb_push ?_
                  refine rb_push ?_
                  apply rb_callS3
                  case hcl => exact rfl
                  case hc =>
                    apply ex_X8_within
                    refine rn_step rfl ?_
                    refine rb_iload rfl ?_
                    refine rb_iload rfl ?_
                    refine rb_clt (fun h => absurd h (by decide)) (fun _ => ?_)
                    refine rb_iload rfl ?_
                    refine rb_iload rfl ?_
                    refine rb_cgt (fun h => absurd h (by decide)) (fun _ => ?_)
                    refine rb_push ?_
                    refine rb_goto ?_
                    refine rn_step rfl ?_
                    refine rb_ret rfl rfl
                  refine rb_ine (fun _ => ?_) (fun h => absurd (by decide) h)
                  refine rn_step rfl ?_
                  refine rb_aload rfl ?_
                  refine rb_getf (v := .ref 23) rfl ?_
                  refine rb_aload rfl ?_
                  refine rb_getf (v := .ref 1) rfl ?_
                  refine rb_iload rfl ?_
                  apply rb_callV2
                  case hb => exact rfl
                  case hcl => exact rfl
                  case hc =>
                    apply ex_X7_behindDays
                    refine rn_step rfl ?_
                    refine rb_aload rfl ?_
                    refine rb_getf (v := .ref 24) rfl ?_
                    refine rb_aload rfl ?_
                    apply rb_callV1v
                    case hb => exact rfl
                    case hcl => exact rfl
                    case hc =>
                      exact p1_become24
                    refine rb_aload rfl ?_
                    refine rb_getf (v := .ref 24) rfl ?_
                    refine rb_iload rfl ?_
                    apply rb_callV1v
                    case hb => exact rfl
                    case hcl => exact rfl
                    case hc =>
                      exact hx
                    refine rb_aload rfl ?_
                    refine rb_getf (v := .ref 24) rfl ?_
                    refine rb_ret rfl rfl
                  refine rb_astore (lv' := [some (.ref 0), some (.int (nI n)), some (.int 8), some (.ref 24)]) rfl ?_
                  refine rb_iload rfl ?_
                  refine rb_swL (n := 6) (by decide) ?_
                  refine rn_step rfl ?_
                  refine rb_aload rfl ?_
                  refine rb_getf (v := .ref 30) rfl ?_
                  refine rb_iload rfl ?_
                  refine rb_push ?_
                  refine rb_binL (z := 5) (by decide) ?_
                  refine rb_iald rfl (by decide) (show _ = some ((-1)) from rfl) ?_
                  apply rb_callS1
                  case hcl => exact rfl
                  case hc =>
                    apply ex_X8_stoneOrNone
                    refine rn_step rfl ?_
                    refine rb_iload rfl ?_
                    refine rb_push ?_
                    refine rb_cne (fun h => absurd (by decide) h) (fun _ => ?_)
                    refine rb_push ?_
                    refine rb_goto ?_
                    refine rn_step rfl ?_
                    refine rb_ret rfl rfl
                  refine rb_ret rfl rfl
                case h2 =>
                  apply ex_X9_behind
                  refine rn_step rfl ?_
                  refine rb_iload rfl ?_
                  refine rb_push ?_
                  refine rb_push ?_
                  apply rb_callS3
                  case hcl => exact rfl
                  case hc =>
                    apply ex_X9_in
                    refine rn_step rfl ?_
                    refine rb_iload rfl ?_
                    refine rb_iload rfl ?_
                    refine rb_clt (fun h => absurd h (ia_nlt hla (by decide))) (fun _ => ?_)
                    refine rb_iload rfl ?_
                    refine rb_iload rfl ?_
                    refine rb_cgt (fun h => absurd h (ia_ngt hha (by decide))) (fun _ => ?_)
                    refine rb_push ?_
                    refine rb_goto ?_
                    refine rn_step rfl ?_
                    refine rb_ret rfl rfl
                  refine rb_ieq (fun h => absurd h (by decide)) (fun _ => ?_)
                  refine rb_iload rfl ?_
                  refine rb_push ?_
                  refine rb_push ?_
                  apply rb_callS3
                  case hcl => exact rfl
                  case hc =>
                    apply ex_X9_in
                    refine rn_step rfl ?_
                    refine rb_iload rfl ?_
                    refine rb_iload rfl ?_
                    refine rb_clt (fun h => absurd h (by decide)) (fun _ => ?_)
                    refine rb_iload rfl ?_
                    refine rb_iload rfl ?_
                    refine rb_cgt (fun h => absurd h (by decide)) (fun _ => ?_)
                    refine rb_push ?_
                    refine rb_goto ?_
                    refine rn_step rfl ?_
                    refine rb_ret rfl rfl
                  refine rb_ine (fun _ => ?_) (fun h => absurd (by decide) h)
                  refine rn_step rfl ?_
                  refine rb_aload rfl ?_
                  apply rb_callV0v
                  case hb => exact rfl
                  case hcl => exact rfl
                  case hc =>
                    exact ht
                  refine rb_aload rfl ?_
                  refine rb_iload rfl ?_
                  apply rb_callV1v
                  case hb => exact rfl
                  case hcl => exact rfl
                  case hc =>
                    exact hm
                  refine rb_iload rfl ?_
                  refine rb_push ?_
                  refine rb_cle (fun h => absurd h (by decide)) (fun _ => ?_)
                  refine rb_aload rfl ?_
                  refine rb_iload rfl ?_
                  refine rb_push ?_
                  refine rb_binL (z := 5) (by decide) ?_
                  apply rb_callV1
                  case hb => exact rfl
                  case hcl => exact rfl
                  case hc =>
                    apply ex_X9_holder
                    refine rn_step rfl ?_
                    refine rb_push ?_
                    refine rb_istore (lv' := [some (.ref 68), some (.int 5), some (.int (-1)), none]) rfl ?_
                    refine rb_push ?_
                    refine rb_istore (lv' := [some (.ref 68), some (.int 5), some (.int (-1)), some (.int 0)]) rfl ?_
                    refine rb_goto ?_
                    refine rn_step rfl ?_
                    refine rb_iload rfl ?_
                    refine rb_aload rfl ?_
                    refine rb_getf (v := .ref 69) rfl ?_
                    refine rb_push ?_
                    refine rb_iald rfl (by decide) (show _ = some (0) from rfl) ?_
                    refine rb_cge (fun _ => ?_) (fun h => absurd (by decide) h)
                    refine rn_step rfl ?_
                    refine rb_iload rfl ?_
                    refine rb_ret rfl rfl
                  apply rb_callS1
                  case hcl => exact rfl
                  case hc =>
                    apply ex_X9_told0
                    refine rn_step rfl ?_
                    refine rb_iload rfl ?_
                    refine rb_ige (fun h => absurd h (by decide)) (fun _ => ?_)
                    refine rb_push ?_
                    refine rb_goto ?_
                    refine rn_step rfl ?_
                    refine rb_ret rfl rfl
                  refine rb_goto ?_
                  refine rn_step rfl ?_
                  refine rb_istore (lv' := [some (.ref 68), some (.int (nI n)), some (.int 8), some (.int (-1000000005))]) rfl ?_
                  refine rb_aload rfl ?_
                  apply rb_callV0v
                  case hb => exact rfl
                  case hcl => exact rfl
                  case hc =>
                    exact c_putsBack (d := 6) _ (okL_len (okL.sA (okL.sA (okL.sI (okL.sI s1_ok _ _ _) _ _ _) _ (by rw [List.length_take, okL_len (okL.sI (okL.sI s1_ok _ _ _) _ _ _) (c := 69) (n := 1461) (by decide) rfl (by decide), okL_len (okL.sI (okL.sI s1_ok _ _ _) _ _ _) (c := 74) (n := 89) (by decide) rfl (by decide)]; rfl)) _ (by simp only [List.length_set])) (c := 69) (n := 1461) (by decide) rfl (by decide)) (okL_len (okL.sA (okL.sA (okL.sI (okL.sI s1_ok _ _ _) _ _ _) _ (by rw [List.length_take, okL_len (okL.sI (okL.sI s1_ok _ _ _) _ _ _) (c := 69) (n := 1461) (by decide) rfl (by decide), okL_len (okL.sI (okL.sI s1_ok _ _ _) _ _ _) (c := 74) (n := 89) (by decide) rfl (by decide)]; rfl)) _ (by simp only [List.length_set])) (c := 74) (n := 89) (by decide) rfl (by decide))
                  refine rb_iload rfl ?_
                  refine rb_ret rfl rfl
                case h3 => exact (okL.sI (okL.sA (okL.sA (okL.sA (okL.sI (okL.sI s1_ok _ _ _) _ _ _) _ (by rw [List.length_take, okL_len (okL.sI (okL.sI s1_ok _ _ _) _ _ _) (c := 69) (n := 1461) (by decide) rfl (by decide), okL_len (okL.sI (okL.sI s1_ok _ _ _) _ _ _) (c := 74) (n := 89) (by decide) rfl (by decide)]; rfl)) _ (by simp only [List.length_set])) _ (by rw [List.length_append, List.length_take, List.length_drop, okL_len (okL.sA (okL.sA (okL.sI (okL.sI s1_ok _ _ _) _ _ _) _ (by rw [List.length_take, okL_len (okL.sI (okL.sI s1_ok _ _ _) _ _ _) (c := 69) (n := 1461) (by decide) rfl (by decide), okL_len (okL.sI (okL.sI s1_ok _ _ _) _ _ _) (c := 74) (n := 89) (by decide) rfl (by decide)]; rfl)) _ (by simp only [List.length_set])) (c := 69) (n := 1461) (by decide) rfl (by decide), okL_len (okL.sA (okL.sA (okL.sI (okL.sI s1_ok _ _ _) _ _ _) _ (by rw [List.length_take, okL_len (okL.sI (okL.sI s1_ok _ _ _) _ _ _) (c := 69) (n := 1461) (by decide) rfl (by decide), okL_len (okL.sI (okL.sI s1_ok _ _ _) _ _ _) (c := 74) (n := 89) (by decide) rfl (by decide)]; rfl)) _ (by simp only [List.length_set])) (c := 74) (n := 89) (by decide) rfl (by decide)]; rfl)) _ _ _)
                case h4 => exact rfl
              ·
                rcases ia_cut (c := 10) hlb hhb with ⟨hlb, hhb⟩ | ⟨hlb, hhb⟩
                ·
                  obtain rfl : b = 9 := ia_one hlb hhb (by decide) (by decide)
                  obtain ⟨zx, dx, hx⟩ := c_passDays0 (d := 3) s1 isT24 ⟨rfl, rfl, rfl⟩ hn
                  have ht := c_thinks (d := 6) (sI (sI s1 24 14 zx) 24 13 dx) (okL_len s1_ok (c := 69) (n := 1461) (by decide) rfl (by decide)) (okL_len s1_ok (c := 74) (n := 89) (by decide) rfl (by decide))
                  obtain ⟨zm, dm, hm⟩ := c_goesOn0 (d := 3) (sA (sI (sI s1 24 14 zx) 24 13 dx) 74 (((sI (sI s1 24 14 zx) 24 13 dx).2.1 69).take 89)) (z := 1) (dd := 0) rfl rfl rfl rfl hn
                  apply p1_intro (v := (-1000000005))
                  case h1 =>
                    apply ex_X8_behind
                    refine rn_step rfl ?_
                    refine rb_iload rfl ?_
                    refine rb_push ?_
                    refine rb_push ?_
                    apply rb_callS3
                    case hcl => exact rfl
                    case hc =>
                      apply ex_X8_within
                      refine rn_step rfl ?_
                      refine rb_iload rfl ?_
                      refine rb_iload rfl ?_
                      refine rb_clt (fun h => absurd h (ia_nlt hla (by decide))) (fun _ => ?_)
                      refine rb_iload rfl ?_
                      refine rb_iload rfl ?_
                      refine rb_cgt (fun h => absurd h (ia_ngt hha (by decide))) (fun _ => ?_)
                      refine rb_push ?_
                      refine rb_goto ?_
                      refine rn_step rfl ?_
                      refine rb_ret rfl rfl
                    refine rb_ieq (fun h => absurd h (by decide)) (fun _ => ?_)
                    refine rb_iload rfl ?_
                    refine rb_push ?_
                    refine rb_push ?_
                    apply rb_callS3
                    case hcl => exact rfl
                    case hc =>
                      apply ex_X8_within
                      refine rn_step rfl ?_
                      refine rb_iload rfl ?_
                      refine rb_iload rfl ?_
                      refine rb_clt (fun h => absurd h (by decide)) (fun _ => ?_)
                      refine rb_iload rfl ?_
                      refine rb_iload rfl ?_
                      refine rb_cgt (fun h => absurd h (by decide)) (fun _ => ?_)
                      refine rb_push ?_
                      refine rb_goto ?_
                      refine rn_step rfl ?_
                      refine rb_ret rfl rfl
                    refine rb_ine (fun _ => ?_) (fun h => absurd (by decide) h)
                    refine rn_step rfl ?_
                    refine rb_aload rfl ?_
                    refine rb_getf (v := .ref 23) rfl ?_
                    refine rb_aload rfl ?_
                    refine rb_getf (v := .ref 1) rfl ?_
                    refine rb_iload rfl ?_
                    apply rb_callV2
                    case hb => exact rfl
                    case hcl => exact rfl
                    case hc =>
                      apply ex_X7_behindDays
                      refine rn_step rfl ?_
                      refine rb_aload rfl ?_
                      refine rb_getf (v := .ref 24) rfl ?_
                      refine rb_aload rfl ?_
                      apply rb_callV1v
                      case hb => exact rfl
                      case hcl => exact rfl
                      case hc =>
                        exact p1_become24
                      refine rb_aload rfl ?_
                      refine rb_getf (v := .ref 24) rfl ?_
                      refine rb_iload rfl ?_
                      apply rb_callV1v
                      case hb => exact rfl
                      case hcl => exact rfl
                      case hc =>
                        exact hx
                      refine rb_aload rfl ?_
                      refine rb_getf (v := .ref 24) rfl ?_
                      refine rb_ret rfl rfl
                    refine rb_astore (lv' := [some (.ref 0), some (.int (nI n)), some (.int 9), some (.ref 24)]) rfl ?_
                    refine rb_iload rfl ?_
                    refine rb_swL (n := 6) (by decide) ?_
                    refine rn_step rfl ?_
                    refine rb_aload rfl ?_
                    refine rb_getf (v := .ref 30) rfl ?_
                    refine rb_iload rfl ?_
                    refine rb_push ?_
                    refine rb_binL (z := 6) (by decide) ?_
                    refine rb_iald rfl (by decide) (show _ = some ((-1)) from rfl) ?_
                    apply rb_callS1
                    case hcl => exact rfl
                    case hc =>
                      apply ex_X8_stoneOrNone
                      refine rn_step rfl ?_
                      refine rb_iload rfl ?_
                      refine rb_push ?_
                      refine rb_cne (fun h => absurd (by decide) h) (fun _ => ?_)
                      refine rb_push ?_
                      refine rb_goto ?_
                      refine rn_step rfl ?_
                      refine rb_ret rfl rfl
                    refine rb_ret rfl rfl
                  case h2 =>
                    apply ex_X9_behind
                    refine rn_step rfl ?_
                    refine rb_iload rfl ?_
                    refine rb_push ?_
                    refine rb_push ?_
                    apply rb_callS3
                    case hcl => exact rfl
                    case hc =>
                      apply ex_X9_in
                      refine rn_step rfl ?_
                      refine rb_iload rfl ?_
                      refine rb_iload rfl ?_
                      refine rb_clt (fun h => absurd h (ia_nlt hla (by decide))) (fun _ => ?_)
                      refine rb_iload rfl ?_
                      refine rb_iload rfl ?_
                      refine rb_cgt (fun h => absurd h (ia_ngt hha (by decide))) (fun _ => ?_)
                      refine rb_push ?_
                      refine rb_goto ?_
                      refine rn_step rfl ?_
                      refine rb_ret rfl rfl
                    refine rb_ieq (fun h => absurd h (by decide)) (fun _ => ?_)
                    refine rb_iload rfl ?_
                    refine rb_push ?_
                    refine rb_push ?_
                    apply rb_callS3
                    case hcl => exact rfl
                    case hc =>
                      apply ex_X9_in
                      refine rn_step rfl ?_
                      refine rb_iload rfl ?_
                      refine rb_iload rfl ?_
                      refine rb_clt (fun h => absurd h (by decide)) (fun _ => ?_)
                      refine rb_iload rfl ?_
                      refine rb_iload rfl ?_
                      refine rb_cgt (fun h => absurd h (by decide)) (fun _ => ?_)
                      refine rb_push ?_
                      refine rb_goto ?_
                      refine rn_step rfl ?_
                      refine rb_ret rfl rfl
                    refine rb_ine (fun _ => ?_) (fun h => absurd (by decide) h)
                    refine rn_step rfl ?_
                    refine rb_aload rfl ?_
                    apply rb_callV0v
                    case hb => exact rfl
                    case hcl => exact rfl
                    case hc =>
                      exact ht
                    refine rb_aload rfl ?_
                    refine rb_iload rfl ?_
                    apply rb_callV1v
                    case hb => exact rfl
                    case hcl => exact rfl
                    case hc =>
                      exact hm
                    refine rb_iload rfl ?_
                    refine rb_push ?_
                    refine rb_cle (fun h => absurd h (by decide)) (fun _ => ?_)
                    refine rb_aload rfl ?_
                    refine rb_iload rfl ?_
                    refine rb_push ?_
                    refine rb_binL (z := 6) (by decide) ?_
                    apply rb_callV1
                    case hb => exact rfl
                    case hcl => exact rfl
                    case hc =>
                      apply ex_X9_holder
                      refine rn_step rfl ?_
                      refine rb_push ?_
                      refine rb_istore (lv' := [some (.ref 68), some (.int 6), some (.int (-1)), none]) rfl ?_
                      refine rb_push ?_
                      refine rb_istore (lv' := [some (.ref 68), some (.int 6), some (.int (-1)), some (.int 0)]) rfl ?_
                      refine rb_goto ?_
                      refine rn_step rfl ?_
                      refine rb_iload rfl ?_
                      refine rb_aload rfl ?_
                      refine rb_getf (v := .ref 69) rfl ?_
                      refine rb_push ?_
                      refine rb_iald rfl (by decide) (show _ = some (0) from rfl) ?_
                      refine rb_cge (fun _ => ?_) (fun h => absurd (by decide) h)
                      refine rn_step rfl ?_
                      refine rb_iload rfl ?_
                      refine rb_ret rfl rfl
                    apply rb_callS1
                    case hcl => exact rfl
                    case hc =>
                      apply ex_X9_told0
                      refine rn_step rfl ?_
                      refine rb_iload rfl ?_
                      refine rb_ige (fun h => absurd h (by decide)) (fun _ => ?_)
                      refine rb_push ?_
                      refine rb_goto ?_
                      refine rn_step rfl ?_
                      refine rb_ret rfl rfl
                    refine rb_goto ?_
                    refine rn_step rfl ?_
                    refine rb_istore (lv' := [some (.ref 68), some (.int (nI n)), some (.int 9), some (.int (-1000000005))]) rfl ?_
                    refine rb_aload rfl ?_
                    apply rb_callV0v
                    case hb => exact rfl
                    case hcl => exact rfl
                    case hc =>
                      exact c_putsBack (d := 6) _ (okL_len (okL.sA (okL.sA (okL.sI (okL.sI s1_ok _ _ _) _ _ _) _ (by rw [List.length_take, okL_len (okL.sI (okL.sI s1_ok _ _ _) _ _ _) (c := 69) (n := 1461) (by decide) rfl (by decide), okL_len (okL.sI (okL.sI s1_ok _ _ _) _ _ _) (c := 74) (n := 89) (by decide) rfl (by decide)]; rfl)) _ (by simp only [List.length_set])) (c := 69) (n := 1461) (by decide) rfl (by decide)) (okL_len (okL.sA (okL.sA (okL.sI (okL.sI s1_ok _ _ _) _ _ _) _ (by rw [List.length_take, okL_len (okL.sI (okL.sI s1_ok _ _ _) _ _ _) (c := 69) (n := 1461) (by decide) rfl (by decide), okL_len (okL.sI (okL.sI s1_ok _ _ _) _ _ _) (c := 74) (n := 89) (by decide) rfl (by decide)]; rfl)) _ (by simp only [List.length_set])) (c := 74) (n := 89) (by decide) rfl (by decide))
                    refine rb_iload rfl ?_
                    refine rb_ret rfl rfl
                  case h3 => exact (okL.sI (okL.sA (okL.sA (okL.sA (okL.sI (okL.sI s1_ok _ _ _) _ _ _) _ (by rw [List.length_take, okL_len (okL.sI (okL.sI s1_ok _ _ _) _ _ _) (c := 69) (n := 1461) (by decide) rfl (by decide), okL_len (okL.sI (okL.sI s1_ok _ _ _) _ _ _) (c := 74) (n := 89) (by decide) rfl (by decide)]; rfl)) _ (by simp only [List.length_set])) _ (by rw [List.length_append, List.length_take, List.length_drop, okL_len (okL.sA (okL.sA (okL.sI (okL.sI s1_ok _ _ _) _ _ _) _ (by rw [List.length_take, okL_len (okL.sI (okL.sI s1_ok _ _ _) _ _ _) (c := 69) (n := 1461) (by decide) rfl (by decide), okL_len (okL.sI (okL.sI s1_ok _ _ _) _ _ _) (c := 74) (n := 89) (by decide) rfl (by decide)]; rfl)) _ (by simp only [List.length_set])) (c := 69) (n := 1461) (by decide) rfl (by decide), okL_len (okL.sA (okL.sA (okL.sI (okL.sI s1_ok _ _ _) _ _ _) _ (by rw [List.length_take, okL_len (okL.sI (okL.sI s1_ok _ _ _) _ _ _) (c := 69) (n := 1461) (by decide) rfl (by decide), okL_len (okL.sI (okL.sI s1_ok _ _ _) _ _ _) (c := 74) (n := 89) (by decide) rfl (by decide)]; rfl)) _ (by simp only [List.length_set])) (c := 74) (n := 89) (by decide) rfl (by decide)]; rfl)) _ _ _)
                  case h4 => exact rfl
                ·
                  rcases ia_cut (c := 11) hlb hhb with ⟨hlb, hhb⟩ | ⟨hlb, hhb⟩
                  ·
                    obtain rfl : b = 10 := ia_one hlb hhb (by decide) (by decide)
                    obtain ⟨zx, dx, hx⟩ := c_passDays0 (d := 3) s1 isT24 ⟨rfl, rfl, rfl⟩ hn
                    have ht := c_thinks (d := 6) (sI (sI s1 24 14 zx) 24 13 dx) (okL_len s1_ok (c := 69) (n := 1461) (by decide) rfl (by decide)) (okL_len s1_ok (c := 74) (n := 89) (by decide) rfl (by decide))
                    obtain ⟨zm, dm, hm⟩ := c_goesOn0 (d := 3) (sA (sI (sI s1 24 14 zx) 24 13 dx) 74 (((sI (sI s1 24 14 zx) 24 13 dx).2.1 69).take 89)) (z := 1) (dd := 0) rfl rfl rfl rfl hn
                    apply p1_intro (v := (-1000000005))
                    case h1 =>
                      apply ex_X8_behind
                      refine rn_step rfl ?_
                      refine rb_iload rfl ?_
                      refine rb_push ?_
                      refine rb_push ?_
                      apply rb_callS3
                      case hcl => exact rfl
                      case hc =>
                        apply ex_X8_within
                        refine rn_step rfl ?_
                        refine rb_iload rfl ?_
                        refine rb_iload rfl ?_
                        refine rb_clt (fun h => absurd h (ia_nlt hla (by decide))) (fun _ => ?_)
                        refine rb_iload rfl ?_
                        refine rb_iload rfl ?_
                        refine rb_cgt (fun h => absurd h (ia_ngt hha (by decide))) (fun _ => ?_)
                        refine rb_push ?_
                        refine rb_goto ?_
                        refine rn_step rfl ?_
                        refine rb_ret rfl rfl
                      refine rb_ieq (fun h => absurd h (by decide)) (fun _ => ?_)
                      refine rb_iload rfl ?_
                      refine rb_push ?_
                      refine rb_push ?_
                      apply rb_callS3
                      case hcl => exact rfl
                      case hc =>
                        apply ex_X8_within
                        refine rn_step rfl ?_
                        refine rb_iload rfl ?_
                        refine rb_iload rfl ?_
                        refine rb_clt (fun h => absurd h (by decide)) (fun _ => ?_)
                        refine rb_iload rfl ?_
                        refine rb_iload rfl ?_
                        refine rb_cgt (fun h => absurd h (by decide)) (fun _ => ?_)
                        refine rb_push ?_
                        refine rb_goto ?_
                        refine rn_step rfl ?_
                        refine rb_ret rfl rfl
                      refine rb_ine (fun _ => ?_) (fun h => absurd (by decide) h)
                      refine rn_step rfl ?_
                      refine rb_aload rfl ?_
                      refine rb_getf (v := .ref 23) rfl ?_
                      refine rb_aload rfl ?_
                      refine rb_getf (v := .ref 1) rfl ?_
                      refine rb_iload rfl ?_
                      apply rb_callV2
                      case hb => exact rfl
                      case hcl => exact rfl
                      case hc =>
                        apply ex_X7_behindDays
                        refine rn_step rfl ?_
                        refine rb_aload rfl ?_
                        refine rb_getf (v := .ref 24) rfl ?_
                        refine rb_aload rfl ?_
                        apply rb_callV1v
                        case hb => exact rfl
                        case hcl => exact rfl
                        case hc =>
                          exact p1_become24
                        refine rb_aload rfl ?_
                        refine rb_getf (v := .ref 24) rfl ?_
                        refine rb_iload rfl ?_
                        apply rb_callV1v
                        case hb => exact rfl
                        case hcl => exact rfl
                        case hc =>
                          exact hx
                        refine rb_aload rfl ?_
                        refine rb_getf (v := .ref 24) rfl ?_
                        refine rb_ret rfl rfl
                      refine rb_astore (lv' := [some (.ref 0), some (.int (nI n)), some (.int 10), some (.ref 24)]) rfl ?_
                      refine rb_iload rfl ?_
                      refine rb_swL (n := 6) (by decide) ?_
                      refine rn_step rfl ?_
                      refine rb_aload rfl ?_
                      refine rb_getf (v := .ref 30) rfl ?_
                      refine rb_iload rfl ?_
                      refine rb_push ?_
                      refine rb_binL (z := 7) (by decide) ?_
                      refine rb_iald rfl (by decide) (show _ = some ((-1)) from rfl) ?_
                      apply rb_callS1
                      case hcl => exact rfl
                      case hc =>
                        apply ex_X8_stoneOrNone
                        refine rn_step rfl ?_
                        refine rb_iload rfl ?_
                        refine rb_push ?_
                        refine rb_cne (fun h => absurd (by decide) h) (fun _ => ?_)
                        refine rb_push ?_
                        refine rb_goto ?_
                        refine rn_step rfl ?_
                        refine rb_ret rfl rfl
                      refine rb_ret rfl rfl
                    case h2 =>
                      apply ex_X9_behind
                      refine rn_step rfl ?_
                      refine rb_iload rfl ?_
                      refine rb_push ?_
                      refine rb_push ?_
                      apply rb_callS3
                      case hcl => exact rfl
                      case hc =>
                        apply ex_X9_in
                        refine rn_step rfl ?_
                        refine rb_iload rfl ?_
                        refine rb_iload rfl ?_
                        refine rb_clt (fun h => absurd h (ia_nlt hla (by decide))) (fun _ => ?_)
                        refine rb_iload rfl ?_
                        refine rb_iload rfl ?_
                        refine rb_cgt (fun h => absurd h (ia_ngt hha (by decide))) (fun _ => ?_)
                        refine rb_push ?_
                        refine rb_goto ?_
                        refine rn_step rfl ?_
                        refine rb_ret rfl rfl
                      refine rb_ieq (fun h => absurd h (by decide)) (fun _ => ?_)
                      refine rb_iload rfl ?_
                      refine rb_push ?_
                      refine rb_push ?_
                      apply rb_callS3
                      case hcl => exact rfl
                      case hc =>
                        apply ex_X9_in
                        refine rn_step rfl ?_
                        refine rb_iload rfl ?_
                        refine rb_iload rfl ?_
                        refine rb_clt (fun h => absurd h (by decide)) (fun _ => ?_)
                        refine rb_iload rfl ?_
                        refine rb_iload rfl ?_
                        refine rb_cgt (fun h => absurd h (by decide)) (fun _ => ?_)
                        refine rb_push ?_
                        refine rb_goto ?_
                        refine rn_step rfl ?_
                        refine rb_ret rfl rfl
                      refine rb_ine (fun _ => ?_) (fun h => absurd (by decide) h)
                      refine rn_step rfl ?_
                      refine rb_aload rfl ?_
                      apply rb_callV0v
                      case hb => exact rfl
                      case hcl => exact rfl
                      case hc =>
                        exact ht
                      refine rb_aload rfl ?_
                      refine rb_iload rfl ?_
                      apply rb_callV1v
                      case hb => exact rfl
                      case hcl => exact rfl
                      case hc =>
                        exact hm
                      refine rb_iload rfl ?_
                      refine rb_push ?_
                      refine rb_cle (fun h => absurd h (by decide)) (fun _ => ?_)
                      refine rb_aload rfl ?_
                      refine rb_iload rfl ?_
                      refine rb_push ?_
                      refine rb_binL (z := 7) (by decide) ?_
                      apply rb_callV1
                      case hb => exact rfl
                      case hcl => exact rfl
                      case hc =>
                        apply ex_X9_holder
                        refine rn_step rfl ?_
                        refine rb_push ?_
                        refine rb_istore (lv' := [some (.ref 68), some (.int 7), some (.int (-1)), none]) rfl ?_
                        refine rb_push ?_
                        refine rb_istore (lv' := [some (.ref 68), some (.int 7), some (.int (-1)), some (.int 0)]) rfl ?_
                        refine rb_goto ?_
                        refine rn_step rfl ?_
                        refine rb_iload rfl ?_
                        refine rb_aload rfl ?_
                        refine rb_getf (v := .ref 69) rfl ?_
                        refine rb_push ?_
                        refine rb_iald rfl (by decide) (show _ = some (0) from rfl) ?_
                        refine rb_cge (fun _ => ?_) (fun h => absurd (by decide) h)
                        refine rn_step rfl ?_
                        refine rb_iload rfl ?_
                        refine rb_ret rfl rfl
                      apply rb_callS1
                      case hcl => exact rfl
                      case hc =>
                        apply ex_X9_told0
                        refine rn_step rfl ?_
                        refine rb_iload rfl ?_
                        refine rb_ige (fun h => absurd h (by decide)) (fun _ => ?_)
                        refine rb_push ?_
                        refine rb_goto ?_
                        refine rn_step rfl ?_
                        refine rb_ret rfl rfl
                      refine rb_goto ?_
                      refine rn_step rfl ?_
                      refine rb_istore (lv' := [some (.ref 68), some (.int (nI n)), some (.int 10), some (.int (-1000000005))]) rfl ?_
                      refine rb_aload rfl ?_
                      apply rb_callV0v
                      case hb => exact rfl
                      case hcl => exact rfl
                      case hc =>
                        exact c_putsBack (d := 6) _ (okL_len (okL.sA (okL.sA (okL.sI (okL.sI s1_ok _ _ _) _ _ _) _ (by rw [List.length_take, okL_len (okL.sI (okL.sI s1_ok _ _ _) _ _ _) (c := 69) (n := 1461) (by decide) rfl (by decide), okL_len (okL.sI (okL.sI s1_ok _ _ _) _ _ _) (c := 74) (n := 89) (by decide) rfl (by decide)]; rfl)) _ (by simp only [List.length_set])) (c := 69) (n := 1461) (by decide) rfl (by decide)) (okL_len (okL.sA (okL.sA (okL.sI (okL.sI s1_ok _ _ _) _ _ _) _ (by rw [List.length_take, okL_len (okL.sI (okL.sI s1_ok _ _ _) _ _ _) (c := 69) (n := 1461) (by decide) rfl (by decide), okL_len (okL.sI (okL.sI s1_ok _ _ _) _ _ _) (c := 74) (n := 89) (by decide) rfl (by decide)]; rfl)) _ (by simp only [List.length_set])) (c := 74) (n := 89) (by decide) rfl (by decide))
                      refine rb_iload rfl ?_
                      refine rb_ret rfl rfl
                    case h3 => exact (okL.sI (okL.sA (okL.sA (okL.sA (okL.sI (okL.sI s1_ok _ _ _) _ _ _) _ (by rw [List.length_take, okL_len (okL.sI (okL.sI s1_ok _ _ _) _ _ _) (c := 69) (n := 1461) (by decide) rfl (by decide), okL_len (okL.sI (okL.sI s1_ok _ _ _) _ _ _) (c := 74) (n := 89) (by decide) rfl (by decide)]; rfl)) _ (by simp only [List.length_set])) _ (by rw [List.length_append, List.length_take, List.length_drop, okL_len (okL.sA (okL.sA (okL.sI (okL.sI s1_ok _ _ _) _ _ _) _ (by rw [List.length_take, okL_len (okL.sI (okL.sI s1_ok _ _ _) _ _ _) (c := 69) (n := 1461) (by decide) rfl (by decide), okL_len (okL.sI (okL.sI s1_ok _ _ _) _ _ _) (c := 74) (n := 89) (by decide) rfl (by decide)]; rfl)) _ (by simp only [List.length_set])) (c := 69) (n := 1461) (by decide) rfl (by decide), okL_len (okL.sA (okL.sA (okL.sI (okL.sI s1_ok _ _ _) _ _ _) _ (by rw [List.length_take, okL_len (okL.sI (okL.sI s1_ok _ _ _) _ _ _) (c := 69) (n := 1461) (by decide) rfl (by decide), okL_len (okL.sI (okL.sI s1_ok _ _ _) _ _ _) (c := 74) (n := 89) (by decide) rfl (by decide)]; rfl)) _ (by simp only [List.length_set])) (c := 74) (n := 89) (by decide) rfl (by decide)]; rfl)) _ _ _)
                    case h4 => exact rfl
                  ·
                    rcases ia_cut (c := 12) hlb hhb with ⟨hlb, hhb⟩ | ⟨hlb, hhb⟩
                    ·
                      obtain rfl : b = 11 := ia_one hlb hhb (by decide) (by decide)
                      obtain ⟨zx, dx, hx⟩ := c_passDays0 (d := 3) s1 isT24 ⟨rfl, rfl, rfl⟩ hn
                      have ht := c_thinks (d := 6) (sI (sI s1 24 14 zx) 24 13 dx) (okL_len s1_ok (c := 69) (n := 1461) (by decide) rfl (by decide)) (okL_len s1_ok (c := 74) (n := 89) (by decide) rfl (by decide))
                      obtain ⟨zm, dm, hm⟩ := c_goesOn0 (d := 3) (sA (sI (sI s1 24 14 zx) 24 13 dx) 74 (((sI (sI s1 24 14 zx) 24 13 dx).2.1 69).take 89)) (z := 1) (dd := 0) rfl rfl rfl rfl hn
                      apply p1_intro (v := (-1000000005))
                      case h1 =>
                        apply ex_X8_behind
                        refine rn_step rfl ?_
                        refine rb_iload rfl ?_
                        refine rb_push ?_
                        refine rb_push ?_
                        apply rb_callS3
                        case hcl => exact rfl
                        case hc =>
                          apply ex_X8_within
                          refine rn_step rfl ?_
                          refine rb_iload rfl ?_
                          refine rb_iload rfl ?_
                          refine rb_clt (fun h => absurd h (ia_nlt hla (by decide))) (fun _ => ?_)
                          refine rb_iload rfl ?_
                          refine rb_iload rfl ?_
                          refine rb_cgt (fun h => absurd h (ia_ngt hha (by decide))) (fun _ => ?_)
                          refine rb_push ?_
                          refine rb_goto ?_
                          refine rn_step rfl ?_
                          refine rb_ret rfl rfl
                        refine rb_ieq (fun h => absurd h (by decide)) (fun _ => ?_)
                        refine rb_iload rfl ?_
                        refine rb_push ?_
                        refine rb_push ?_
                        apply rb_callS3
                        case hcl => exact rfl
                        case hc =>
                          apply ex_X8_within
                          refine rn_step rfl ?_
                          refine rb_iload rfl ?_
                          refine rb_iload rfl ?_
                          refine rb_clt (fun h => absurd h (by decide)) (fun _ => ?_)
                          refine rb_iload rfl ?_
                          refine rb_iload rfl ?_
                          refine rb_cgt (fun h => absurd h (by decide)) (fun _ => ?_)
                          refine rb_push ?_
                          refine rb_goto ?_
                          refine rn_step rfl ?_
                          refine rb_ret rfl rfl
                        refine rb_ine (fun _ => ?_) (fun h => absurd (by decide) h)
                        refine rn_step rfl ?_
                        refine rb_aload rfl ?_
                        refine rb_getf (v := .ref 23) rfl ?_
                        refine rb_aload rfl ?_
                        refine rb_getf (v := .ref 1) rfl ?_
                        refine rb_iload rfl ?_
                        apply rb_callV2
                        case hb => exact rfl
                        case hcl => exact rfl
                        case hc =>
                          apply ex_X7_behindDays
                          refine rn_step rfl ?_
                          refine rb_aload rfl ?_
                          refine rb_getf (v := .ref 24) rfl ?_
                          refine rb_aload rfl ?_
                          apply rb_callV1v
                          case hb => exact rfl
                          case hcl => exact rfl
                          case hc =>
                            exact p1_become24
                          refine rb_aload rfl ?_
                          refine rb_getf (v := .ref 24) rfl ?_
                          refine rb_iload rfl ?_
                          apply rb_callV1v
                          case hb => exact rfl
                          case hcl => exact rfl
                          case hc =>
                            exact hx
                          refine rb_aload rfl ?_
                          refine rb_getf (v := .ref 24) rfl ?_
                          refine rb_ret rfl rfl
                        refine rb_astore (lv' := [some (.ref 0), some (.int (nI n)), some (.int 11), some (.ref 24)]) rfl ?_
                        refine rb_iload rfl ?_
                        refine rb_swL (n := 6) (by decide) ?_
                        refine rn_step rfl ?_
                        refine rb_aload rfl ?_
                        refine rb_getf (v := .ref 30) rfl ?_
                        refine rb_iload rfl ?_
                        refine rb_push ?_
                        refine rb_binL (z := 8) (by decide) ?_
                        refine rb_iald rfl (by decide) (show _ = some ((-1)) from rfl) ?_
                        apply rb_callS1
                        case hcl => exact rfl
                        case hc =>
                          apply ex_X8_stoneOrNone
                          refine rn_step rfl ?_
                          refine rb_iload rfl ?_
                          refine rb_push ?_
                          refine rb_cne (fun h => absurd (by decide) h) (fun _ => ?_)
                          refine rb_push ?_
                          refine rb_goto ?_
                          refine rn_step rfl ?_
                          refine rb_ret rfl rfl
                        refine rb_ret rfl rfl
                      case h2 =>
                        apply ex_X9_behind
                        refine rn_step rfl ?_
                        refine rb_iload rfl ?_
                        refine rb_push ?_
                        refine rb_push ?_
                        apply rb_callS3
                        case hcl => exact rfl
                        case hc =>
                          apply ex_X9_in
                          refine rn_step rfl ?_
                          refine rb_iload rfl ?_
                          refine rb_iload rfl ?_
                          refine rb_clt (fun h => absurd h (ia_nlt hla (by decide))) (fun _ => ?_)
                          refine rb_iload rfl ?_
                          refine rb_iload rfl ?_
                          refine rb_cgt (fun h => absurd h (ia_ngt hha (by decide))) (fun _ => ?_)
                          refine rb_push ?_
                          refine rb_goto ?_
                          refine rn_step rfl ?_
                          refine rb_ret rfl rfl
                        refine rb_ieq (fun h => absurd h (by decide)) (fun _ => ?_)
                        refine rb_iload rfl ?_
                        refine rb_push ?_
                        refine rb_push ?_
                        apply rb_callS3
                        case hcl => exact rfl
                        case hc =>
                          apply ex_X9_in
                          refine rn_step rfl ?_
                          refine rb_iload rfl ?_
                          refine rb_iload rfl ?_
                          refine rb_clt (fun h => absurd h (by decide)) (fun _ => ?_)
                          refine rb_iload rfl ?_
                          refine rb_iload rfl ?_
                          refine rb_cgt (fun h => absurd h (by decide)) (fun _ => ?_)
                          refine rb_push ?_
                          refine rb_goto ?_
                          refine rn_step rfl ?_
                          refine rb_ret rfl rfl
                        refine rb_ine (fun _ => ?_) (fun h => absurd (by decide) h)
                        refine rn_step rfl ?_
                        refine rb_aload rfl ?_
                        apply rb_callV0v
                        case hb => exact rfl
                        case hcl => exact rfl
                        case hc =>
                          exact ht
                        refine rb_aload rfl ?_
                        refine rb_iload rfl ?_
                        apply rb_callV1v
                        case hb => exact rfl
                        case hcl => exact rfl
                        case hc =>
                          exact hm
                        refine rb_iload rfl ?_
                        refine rb_push ?_
                        refine rb_cle (fun h => absurd h (by decide)) (fun _ => ?_)
                        refine rb_aload rfl ?_
                        refine rb_iload rfl ?_
                        refine rb_push ?_
                        refine rb_binL (z := 8) (by decide) ?_
                        apply rb_callV1
                        case hb => exact rfl
                        case hcl => exact rfl
                        case hc =>
                          apply ex_X9_holder
                          refine rn_step rfl ?_
                          refine rb_push ?_
                          refine rb_istore (lv' := [some (.ref 68), some (.int 8), some (.int (-1)), none]) rfl ?_
                          refine rb_push ?_
                          refine rb_istore (lv' := [some (.ref 68), some (.int 8), some (.int (-1)), some (.int 0)]) rfl ?_
                          refine rb_goto ?_
                          refine rn_step rfl ?_
                          refine rb_iload rfl ?_
                          refine rb_aload rfl ?_
                          refine rb_getf (v := .ref 69) rfl ?_
                          refine rb_push ?_
                          refine rb_iald rfl (by decide) (show _ = some (0) from rfl) ?_
                          refine rb_cge (fun _ => ?_) (fun h => absurd (by decide) h)
                          refine rn_step rfl ?_
                          refine rb_iload rfl ?_
                          refine rb_ret rfl rfl
                        apply rb_callS1
                        case hcl => exact rfl
                        case hc =>
                          apply ex_X9_told0
                          refine rn_step rfl ?_
                          refine rb_iload rfl ?_
                          refine rb_ige (fun h => absurd h (by decide)) (fun _ => ?_)
                          refine rb_push ?_
                          refine rb_goto ?_
                          refine rn_step rfl ?_
                          refine rb_ret rfl rfl
                        refine rb_goto ?_
                        refine rn_step rfl ?_
                        refine rb_istore (lv' := [some (.ref 68), some (.int (nI n)), some (.int 11), some (.int (-1000000005))]) rfl ?_
                        refine rb_aload rfl ?_
                        apply rb_callV0v
                        case hb => exact rfl
                        case hcl => exact rfl
                        case hc =>
                          exact c_putsBack (d := 6) _ (okL_len (okL.sA (okL.sA (okL.sI (okL.sI s1_ok _ _ _) _ _ _) _ (by rw [List.length_take, okL_len (okL.sI (okL.sI s1_ok _ _ _) _ _ _) (c := 69) (n := 1461) (by decide) rfl (by decide), okL_len (okL.sI (okL.sI s1_ok _ _ _) _ _ _) (c := 74) (n := 89) (by decide) rfl (by decide)]; rfl)) _ (by simp only [List.length_set])) (c := 69) (n := 1461) (by decide) rfl (by decide)) (okL_len (okL.sA (okL.sA (okL.sI (okL.sI s1_ok _ _ _) _ _ _) _ (by rw [List.length_take, okL_len (okL.sI (okL.sI s1_ok _ _ _) _ _ _) (c := 69) (n := 1461) (by decide) rfl (by decide), okL_len (okL.sI (okL.sI s1_ok _ _ _) _ _ _) (c := 74) (n := 89) (by decide) rfl (by decide)]; rfl)) _ (by simp only [List.length_set])) (c := 74) (n := 89) (by decide) rfl (by decide))
                        refine rb_iload rfl ?_
                        refine rb_ret rfl rfl
                      case h3 => exact (okL.sI (okL.sA (okL.sA (okL.sA (okL.sI (okL.sI s1_ok _ _ _) _ _ _) _ (by rw [List.length_take, okL_len (okL.sI (okL.sI s1_ok _ _ _) _ _ _) (c := 69) (n := 1461) (by decide) rfl (by decide), okL_len (okL.sI (okL.sI s1_ok _ _ _) _ _ _) (c := 74) (n := 89) (by decide) rfl (by decide)]; rfl)) _ (by simp only [List.length_set])) _ (by rw [List.length_append, List.length_take, List.length_drop, okL_len (okL.sA (okL.sA (okL.sI (okL.sI s1_ok _ _ _) _ _ _) _ (by rw [List.length_take, okL_len (okL.sI (okL.sI s1_ok _ _ _) _ _ _) (c := 69) (n := 1461) (by decide) rfl (by decide), okL_len (okL.sI (okL.sI s1_ok _ _ _) _ _ _) (c := 74) (n := 89) (by decide) rfl (by decide)]; rfl)) _ (by simp only [List.length_set])) (c := 69) (n := 1461) (by decide) rfl (by decide), okL_len (okL.sA (okL.sA (okL.sI (okL.sI s1_ok _ _ _) _ _ _) _ (by rw [List.length_take, okL_len (okL.sI (okL.sI s1_ok _ _ _) _ _ _) (c := 69) (n := 1461) (by decide) rfl (by decide), okL_len (okL.sI (okL.sI s1_ok _ _ _) _ _ _) (c := 74) (n := 89) (by decide) rfl (by decide)]; rfl)) _ (by simp only [List.length_set])) (c := 74) (n := 89) (by decide) rfl (by decide)]; rfl)) _ _ _)
                      case h4 => exact rfl
                    ·
                      rcases ia_cut (c := 13) hlb hhb with ⟨hlb, hhb⟩ | ⟨hlb, hhb⟩
                      ·
                        obtain rfl : b = 12 := ia_one hlb hhb (by decide) (by decide)
                        obtain ⟨zx, dx, hx⟩ := c_passDays0 (d := 3) s1 isT24 ⟨rfl, rfl, rfl⟩ hn
                        have ht := c_thinks (d := 6) (sI (sI s1 24 14 zx) 24 13 dx) (okL_len s1_ok (c := 69) (n := 1461) (by decide) rfl (by decide)) (okL_len s1_ok (c := 74) (n := 89) (by decide) rfl (by decide))
                        obtain ⟨zm, dm, hm⟩ := c_goesOn0 (d := 3) (sA (sI (sI s1 24 14 zx) 24 13 dx) 74 (((sI (sI s1 24 14 zx) 24 13 dx).2.1 69).take 89)) (z := 1) (dd := 0) rfl rfl rfl rfl hn
                        apply p1_intro (v := (-1000000005))
                        case h1 =>
                          apply ex_X8_behind
                          refine rn_step rfl ?_
                          refine rb_iload rfl ?_
                          refine rb_push ?_
                          refine rb_push ?_
                          apply rb_callS3
                          case hcl => exact rfl
                          case hc =>
                            apply ex_X8_within
                            refine rn_step rfl ?_
                            refine rb_iload rfl ?_
                            refine rb_iload rfl ?_
                            refine rb_clt (fun h => absurd h (ia_nlt hla (by decide))) (fun _ => ?_)
                            refine rb_iload rfl ?_
                            refine rb_iload rfl ?_
                            refine rb_cgt (fun h => absurd h (ia_ngt hha (by decide))) (fun _ => ?_)
                            refine rb_push ?_
                            refine rb_goto ?_
                            refine rn_step rfl ?_
                            refine rb_ret rfl rfl
                          refine rb_ieq (fun h => absurd h (by decide)) (fun _ => ?_)
                          refine rb_iload rfl ?_
                          refine rb_push ?_
                          refine rb_push ?_
                          apply rb_callS3
                          case hcl => exact rfl
                          case hc =>
                            apply ex_X8_within
                            refine rn_step rfl ?_
                            refine rb_iload rfl ?_
                            refine rb_iload rfl ?_
                            refine rb_clt (fun h => absurd h (by decide)) (fun _ => ?_)
                            refine rb_iload rfl ?_
                            refine rb_iload rfl ?_
                            refine rb_cgt (fun h => absurd h (by decide)) (fun _ => ?_)
                            refine rb_push ?_
                            refine rb_goto ?_
                            refine rn_step rfl ?_
                            refine rb_ret rfl rfl
                          refine rb_ine (fun _ => ?_) (fun h => absurd (by decide) h)
                          refine rn_step rfl ?_
                          refine rb_aload rfl ?_
                          refine rb_getf (v := .ref 23) rfl ?_
                          refine rb_aload rfl ?_
                          refine rb_getf (v := .ref 1) rfl ?_
                          refine rb_iload rfl ?_
                          apply rb_callV2
                          case hb => exact rfl
                          case hcl => exact rfl
                          case hc =>
                            apply ex_X7_behindDays
                            refine rn_step rfl ?_
                            refine rb_aload rfl ?_
                            refine rb_getf (v := .ref 24) rfl ?_
                            refine rb_aload rfl ?_
                            apply rb_callV1v
                            case hb => exact rfl
                            case hcl => exact rfl
                            case hc =>
                              exact p1_become24
                            refine rb_aload rfl ?_
                            refine rb_getf (v := .ref 24) rfl ?_
                            refine rb_iload rfl ?_
                            apply rb_callV1v
                            case hb => exact rfl
                            case hcl => exact rfl
                            case hc =>
                              exact hx
                            refine rb_aload rfl ?_
                            refine rb_getf (v := .ref 24) rfl ?_
                            refine rb_ret rfl rfl
                          refine rb_astore (lv' := [some (.ref 0), some (.int (nI n)), some (.int 12), some (.ref 24)]) rfl ?_
                          refine rb_iload rfl ?_
                          refine rb_swL (n := 6) (by decide) ?_
                          refine rn_step rfl ?_
                          refine rb_aload rfl ?_
                          refine rb_getf (v := .ref 30) rfl ?_
                          refine rb_iload rfl ?_
                          refine rb_push ?_
                          refine rb_binL (z := 9) (by decide) ?_
                          refine rb_iald rfl (by decide) (show _ = some ((-1)) from rfl) ?_
                          apply rb_callS1
                          case hcl => exact rfl
                          case hc =>
                            apply ex_X8_stoneOrNone
                            refine rn_step rfl ?_
                            refine rb_iload rfl ?_
                            refine rb_push ?_
                            refine rb_cne (fun h => absurd (by decide) h) (fun _ => ?_)
                            refine rb_push ?_
                            refine rb_goto ?_
                            refine rn_step rfl ?_
                            refine rb_ret rfl rfl
                          refine rb_ret rfl rfl
                        case h2 =>
                          apply ex_X9_behind
                          refine rn_step rfl ?_
                          refine rb_iload rfl ?_
                          refine rb_push ?_
                          refine rb_push ?_
                          apply rb_callS3
                          case hcl => exact rfl
                          case hc =>
                            apply ex_X9_in
                            refine rn_step rfl ?_
                            refine rb_iload rfl ?_
                            refine rb_iload rfl ?_
                            refine rb_clt (fun h => absurd h (ia_nlt hla (by decide))) (fun _ => ?_)
                            refine rb_iload rfl ?_
                            refine rb_iload rfl ?_
                            refine rb_cgt (fun h => absurd h (ia_ngt hha (by decide))) (fun _ => ?_)
                            refine rb_push ?_
                            refine rb_goto ?_
                            refine rn_step rfl ?_
                            refine rb_ret rfl rfl
                          refine rb_ieq (fun h => absurd h (by decide)) (fun _ => ?_)
                          refine rb_iload rfl ?_
                          refine rb_push ?_
                          refine rb_push ?_
                          apply rb_callS3
                          case hcl => exact rfl
                          case hc =>
                            apply ex_X9_in
                            refine rn_step rfl ?_
                            refine rb_iload rfl ?_
                            refine rb_iload rfl ?_
                            refine rb_clt (fun h => absurd h (by decide)) (fun _ => ?_)
                            refine rb_iload rfl ?_
                            refine rb_iload rfl ?_
                            refine rb_cgt (fun h => absurd h (by decide)) (fun _ => ?_)
                            refine rb_push ?_
                            refine rb_goto ?_
                            refine rn_step rfl ?_
                            refine rb_ret rfl rfl
                          refine rb_ine (fun _ => ?_) (fun h => absurd (by decide) h)
                          refine rn_step rfl ?_
                          refine rb_aload rfl ?_
                          apply rb_callV0v
                          case hb => exact rfl
                          case hcl => exact rfl
                          case hc =>
                            exact ht
                          refine rb_aload rfl ?_
                          refine rb_iload rfl ?_
                          apply rb_callV1v
                          case hb => exact rfl
                          case hcl => exact rfl
                          case hc =>
                            exact hm
                          refine rb_iload rfl ?_
                          refine rb_push ?_
                          refine rb_cle (fun h => absurd h (by decide)) (fun _ => ?_)
                          refine rb_aload rfl ?_
                          refine rb_iload rfl ?_
                          refine rb_push ?_
                          refine rb_binL (z := 9) (by decide) ?_
                          apply rb_callV1
                          case hb => exact rfl
                          case hcl => exact rfl
                          case hc =>
                            apply ex_X9_holder
                            refine rn_step rfl ?_
                            refine rb_push ?_
                            refine rb_istore (lv' := [some (.ref 68), some (.int 9), some (.int (-1)), none]) rfl ?_
                            refine rb_push ?_
                            refine rb_istore (lv' := [some (.ref 68), some (.int 9), some (.int (-1)), some (.int 0)]) rfl ?_
                            refine rb_goto ?_
                            refine rn_step rfl ?_
                            refine rb_iload rfl ?_
                            refine rb_aload rfl ?_
                            refine rb_getf (v := .ref 69) rfl ?_
                            refine rb_push ?_
                            refine rb_iald rfl (by decide) (show _ = some (0) from rfl) ?_
                            refine rb_cge (fun _ => ?_) (fun h => absurd (by decide) h)
                            refine rn_step rfl ?_
                            refine rb_iload rfl ?_
                            refine rb_ret rfl rfl
                          apply rb_callS1
                          case hcl => exact rfl
                          case hc =>
                            apply ex_X9_told0
                            refine rn_step rfl ?_
                            refine rb_iload rfl ?_
                            refine rb_ige (fun h => absurd h (by decide)) (fun _ => ?_)
                            refine rb_push ?_
                            refine rb_goto ?_
                            refine rn_step rfl ?_
                            refine rb_ret rfl rfl
                          refine rb_goto ?_
                          refine rn_step rfl ?_
                          refine rb_istore (lv' := [some (.ref 68), some (.int (nI n)), some (.int 12), some (.int (-1000000005))]) rfl ?_
                          refine rb_aload rfl ?_
                          apply rb_callV0v
                          case hb => exact rfl
                          case hcl => exact rfl
                          case hc =>
                            exact c_putsBack (d := 6) _ (okL_len (okL.sA (okL.sA (okL.sI (okL.sI s1_ok _ _ _) _ _ _) _ (by rw [List.length_take, okL_len (okL.sI (okL.sI s1_ok _ _ _) _ _ _) (c := 69) (n := 1461) (by decide) rfl (by decide), okL_len (okL.sI (okL.sI s1_ok _ _ _) _ _ _) (c := 74) (n := 89) (by decide) rfl (by decide)]; rfl)) _ (by simp only [List.length_set])) (c := 69) (n := 1461) (by decide) rfl (by decide)) (okL_len (okL.sA (okL.sA (okL.sI (okL.sI s1_ok _ _ _) _ _ _) _ (by rw [List.length_take, okL_len (okL.sI (okL.sI s1_ok _ _ _) _ _ _) (c := 69) (n := 1461) (by decide) rfl (by decide), okL_len (okL.sI (okL.sI s1_ok _ _ _) _ _ _) (c := 74) (n := 89) (by decide) rfl (by decide)]; rfl)) _ (by simp only [List.length_set])) (c := 74) (n := 89) (by decide) rfl (by decide))
                          refine rb_iload rfl ?_
                          refine rb_ret rfl rfl
                        case h3 => exact (okL.sI (okL.sA (okL.sA (okL.sA (okL.sI (okL.sI s1_ok _ _ _) _ _ _) _ (by rw [List.length_take, okL_len (okL.sI (okL.sI s1_ok _ _ _) _ _ _) (c := 69) (n := 1461) (by decide) rfl (by decide), okL_len (okL.sI (okL.sI s1_ok _ _ _) _ _ _) (c := 74) (n := 89) (by decide) rfl (by decide)]; rfl)) _ (by simp only [List.length_set])) _ (by rw [List.length_append, List.length_take, List.length_drop, okL_len (okL.sA (okL.sA (okL.sI (okL.sI s1_ok _ _ _) _ _ _) _ (by rw [List.length_take, okL_len (okL.sI (okL.sI s1_ok _ _ _) _ _ _) (c := 69) (n := 1461) (by decide) rfl (by decide), okL_len (okL.sI (okL.sI s1_ok _ _ _) _ _ _) (c := 74) (n := 89) (by decide) rfl (by decide)]; rfl)) _ (by simp only [List.length_set])) (c := 69) (n := 1461) (by decide) rfl (by decide), okL_len (okL.sA (okL.sA (okL.sI (okL.sI s1_ok _ _ _) _ _ _) _ (by rw [List.length_take, okL_len (okL.sI (okL.sI s1_ok _ _ _) _ _ _) (c := 69) (n := 1461) (by decide) rfl (by decide), okL_len (okL.sI (okL.sI s1_ok _ _ _) _ _ _) (c := 74) (n := 89) (by decide) rfl (by decide)]; rfl)) _ (by simp only [List.length_set])) (c := 74) (n := 89) (by decide) rfl (by decide)]; rfl)) _ _ _)
                        case h4 => exact rfl
                      ·
                        rcases ia_cut (c := 14) hlb hhb with ⟨hlb, hhb⟩ | ⟨hlb, hhb⟩
                        ·
                          obtain rfl : b = 13 := ia_one hlb hhb (by decide) (by decide)
                          obtain ⟨zx, dx, hx⟩ := c_passDays0 (d := 3) s1 isT24 ⟨rfl, rfl, rfl⟩ hn
                          have ht := c_thinks (d := 6) (sI (sI s1 24 14 zx) 24 13 dx) (okL_len s1_ok (c := 69) (n := 1461) (by decide) rfl (by decide)) (okL_len s1_ok (c := 74) (n := 89) (by decide) rfl (by decide))
                          obtain ⟨zm, dm, hm⟩ := c_goesOn0 (d := 3) (sA (sI (sI s1 24 14 zx) 24 13 dx) 74 (((sI (sI s1 24 14 zx) 24 13 dx).2.1 69).take 89)) (z := 1) (dd := 0) rfl rfl rfl rfl hn
                          apply p1_intro (v := (-1000000005))
                          case h1 =>
                            apply ex_X8_behind
                            refine rn_step rfl ?_
                            refine rb_iload rfl ?_
                            refine rb_push ?_
                            refine rb_push ?_
                            apply rb_callS3
                            case hcl => exact rfl
                            case hc =>
                              apply ex_X8_within
                              refine rn_step rfl ?_
                              refine rb_iload rfl ?_
                              refine rb_iload rfl ?_
                              refine rb_clt (fun h => absurd h (ia_nlt hla (by decide))) (fun _ => ?_)
                              refine rb_iload rfl ?_
                              refine rb_iload rfl ?_
                              refine rb_cgt (fun h => absurd h (ia_ngt hha (by decide))) (fun _ => ?_)
                              refine rb_push ?_
                              refine rb_goto ?_
                              refine rn_step rfl ?_
                              refine rb_ret rfl rfl
                            refine rb_ieq (fun h => absurd h (by decide)) (fun _ => ?_)
                            refine rb_iload rfl ?_
                            refine rb_push ?_
                            refine rb_push ?_
                            apply rb_callS3
                            case hcl => exact rfl
                            case hc =>
                              apply ex_X8_within
                              refine rn_step rfl ?_
                              refine rb_iload rfl ?_
                              refine rb_iload rfl ?_
                              refine rb_clt (fun h => absurd h (by decide)) (fun _ => ?_)
                              refine rb_iload rfl ?_
                              refine rb_iload rfl ?_
                              refine rb_cgt (fun h => absurd h (by decide)) (fun _ => ?_)
                              refine rb_push ?_
                              refine rb_goto ?_
                              refine rn_step rfl ?_
                              refine rb_ret rfl rfl
                            refine rb_ine (fun _ => ?_) (fun h => absurd (by decide) h)
                            refine rn_step rfl ?_
                            refine rb_aload rfl ?_
                            refine rb_getf (v := .ref 23) rfl ?_
                            refine rb_aload rfl ?_
                            refine rb_getf (v := .ref 1) rfl ?_
                            refine rb_iload rfl ?_
                            apply rb_callV2
                            case hb => exact rfl
                            case hcl => exact rfl
                            case hc =>
                              apply ex_X7_behindDays
                              refine rn_step rfl ?_
                              refine rb_aload rfl ?_
                              refine rb_getf (v := .ref 24) rfl ?_
                              refine rb_aload rfl ?_
                              apply rb_callV1v
                              case hb => exact rfl
                              case hcl => exact rfl
                              case hc =>
                                exact p1_become24
                              refine rb_aload rfl ?_
                              refine rb_getf (v := .ref 24) rfl ?_
                              refine rb_iload rfl ?_
                              apply rb_callV1v
                              case hb => exact rfl
                              case hcl => exact rfl
                              case hc =>
                                exact hx
                              refine rb_aload rfl ?_
                              refine rb_getf (v := .ref 24) rfl ?_
                              refine rb_ret rfl rfl
                            refine rb_astore (lv' := [some (.ref 0), some (.int (nI n)), some (.int 13), some (.ref 24)]) rfl ?_
                            refine rb_iload rfl ?_
                            refine rb_swL (n := 6) (by decide) ?_
                            refine rn_step rfl ?_
                            refine rb_aload rfl ?_
                            refine rb_getf (v := .ref 30) rfl ?_
                            refine rb_iload rfl ?_
                            refine rb_push ?_
                            refine rb_binL (z := 10) (by decide) ?_
                            refine rb_iald rfl (by decide) (show _ = some ((-1)) from rfl) ?_
                            apply rb_callS1
                            case hcl => exact rfl
                            case hc =>
                              apply ex_X8_stoneOrNone
                              refine rn_step rfl ?_
                              refine rb_iload rfl ?_
                              refine rb_push ?_
                              refine rb_cne (fun h => absurd (by decide) h) (fun _ => ?_)
                              refine rb_push ?_
                              refine rb_goto ?_
                              refine rn_step rfl ?_
                              refine rb_ret rfl rfl
                            refine rb_ret rfl rfl
                          case h2 =>
                            apply ex_X9_behind
                            refine rn_step rfl ?_
                            refine rb_iload rfl ?_
                            refine rb_push ?_
                            refine rb_push ?_
                            apply rb_callS3
                            case hcl => exact rfl
                            case hc =>
                              apply ex_X9_in
                              refine rn_step rfl ?_
                              refine rb_iload rfl ?_
                              refine rb_iload rfl ?_
                              refine rb_clt (fun h => absurd h (ia_nlt hla (by decide))) (fun _ => ?_)
                              refine rb_iload rfl ?_
                              refine rb_iload rfl ?_
                              refine rb_cgt (fun h => absurd h (ia_ngt hha (by decide))) (fun _ => ?_)
                              refine rb_push ?_
                              refine rb_goto ?_
                              refine rn_step rfl ?_
                              refine rb_ret rfl rfl
                            refine rb_ieq (fun h => absurd h (by decide)) (fun _ => ?_)
                            refine rb_iload rfl ?_
                            refine rb_push ?_
                            refine rb_push ?_
                            apply rb_callS3
                            case hcl => exact rfl
                            case hc =>
                              apply ex_X9_in
                              refine rn_step rfl ?_
                              refine rb_iload rfl ?_
                              refine rb_iload rfl ?_
                              refine rb_clt (fun h => absurd h (by decide)) (fun _ => ?_)
                              refine rb_iload rfl ?_
                              refine rb_iload rfl ?_
                              refine rb_cgt (fun h => absurd h (by decide)) (fun _ => ?_)
                              refine rb_push ?_
                              refine rb_goto ?_
                              refine rn_step rfl ?_
                              refine rb_ret rfl rfl
                            refine rb_ine (fun _ => ?_) (fun h => absurd (by decide) h)
                            refine rn_step rfl ?_
                            refine rb_aload rfl ?_
                            apply rb_callV0v
                            case hb => exact rfl
                            case hcl => exact rfl
                            case hc =>
                              exact ht
                            refine rb_aload rfl ?_
                            refine rb_iload rfl ?_
                            apply rb_callV1v
                            case hb => exact rfl
                            case hcl => exact rfl
                            case hc =>
                              exact hm
                            refine rb_iload rfl ?_
                            refine rb_push ?_
                            refine rb_cle (fun h => absurd h (by decide)) (fun _ => ?_)
                            refine rb_aload rfl ?_
                            refine rb_iload rfl ?_
                            refine rb_push ?_
                            refine rb_binL (z := 10) (by decide) ?_
                            apply rb_callV1
                            case hb => exact rfl
                            case hcl => exact rfl
                            case hc =>
                              apply ex_X9_holder
                              refine rn_step rfl ?_
                              refine rb_push ?_
                              refine rb_istore (lv' := [some (.ref 68), some (.int 10), some (.int (-1)), none]) rfl ?_
                              refine rb_push ?_
                              refine rb_istore (lv' := [some (.ref 68), some (.int 10), some (.int (-1)), some (.int 0)]) rfl ?_
                              refine rb_goto ?_
                              refine rn_step rfl ?_
                              refine rb_iload rfl ?_
                              refine rb_aload rfl ?_
                              refine rb_getf (v := .ref 69) rfl ?_
                              refine rb_push ?_
                              refine rb_iald rfl (by decide) (show _ = some (0) from rfl) ?_
                              refine rb_cge (fun _ => ?_) (fun h => absurd (by decide) h)
                              refine rn_step rfl ?_
                              refine rb_iload rfl ?_
                              refine rb_ret rfl rfl
                            apply rb_callS1
                            case hcl => exact rfl
                            case hc =>
                              apply ex_X9_told0
                              refine rn_step rfl ?_
                              refine rb_iload rfl ?_
                              refine rb_ige (fun h => absurd h (by decide)) (fun _ => ?_)
                              refine rb_push ?_
                              refine rb_goto ?_
                              refine rn_step rfl ?_
                              refine rb_ret rfl rfl
                            refine rb_goto ?_
                            refine rn_step rfl ?_
                            refine rb_istore (lv' := [some (.ref 68), some (.int (nI n)), some (.int 13), some (.int (-1000000005))]) rfl ?_
                            refine rb_aload rfl ?_
                            apply rb_callV0v
                            case hb => exact rfl
                            case hcl => exact rfl
                            case hc =>
                              exact c_putsBack (d := 6) _ (okL_len (okL.sA (okL.sA (okL.sI (okL.sI s1_ok _ _ _) _ _ _) _ (by rw [List.length_take, okL_len (okL.sI (okL.sI s1_ok _ _ _) _ _ _) (c := 69) (n := 1461) (by decide) rfl (by decide), okL_len (okL.sI (okL.sI s1_ok _ _ _) _ _ _) (c := 74) (n := 89) (by decide) rfl (by decide)]; rfl)) _ (by simp only [List.length_set])) (c := 69) (n := 1461) (by decide) rfl (by decide)) (okL_len (okL.sA (okL.sA (okL.sI (okL.sI s1_ok _ _ _) _ _ _) _ (by rw [List.length_take, okL_len (okL.sI (okL.sI s1_ok _ _ _) _ _ _) (c := 69) (n := 1461) (by decide) rfl (by decide), okL_len (okL.sI (okL.sI s1_ok _ _ _) _ _ _) (c := 74) (n := 89) (by decide) rfl (by decide)]; rfl)) _ (by simp only [List.length_set])) (c := 74) (n := 89) (by decide) rfl (by decide))
                            refine rb_iload rfl ?_
                            refine rb_ret rfl rfl
                          case h3 => exact (okL.sI (okL.sA (okL.sA (okL.sA (okL.sI (okL.sI s1_ok _ _ _) _ _ _) _ (by rw [List.length_take, okL_len (okL.sI (okL.sI s1_ok _ _ _) _ _ _) (c := 69) (n := 1461) (by decide) rfl (by decide), okL_len (okL.sI (okL.sI s1_ok _ _ _) _ _ _) (c := 74) (n := 89) (by decide) rfl (by decide)]; rfl)) _ (by simp only [List.length_set])) _ (by rw [List.length_append, List.length_take, List.length_drop, okL_len (okL.sA (okL.sA (okL.sI (okL.sI s1_ok _ _ _) _ _ _) _ (by rw [List.length_take, okL_len (okL.sI (okL.sI s1_ok _ _ _) _ _ _) (c := 69) (n := 1461) (by decide) rfl (by decide), okL_len (okL.sI (okL.sI s1_ok _ _ _) _ _ _) (c := 74) (n := 89) (by decide) rfl (by decide)]; rfl)) _ (by simp only [List.length_set])) (c := 69) (n := 1461) (by decide) rfl (by decide), okL_len (okL.sA (okL.sA (okL.sI (okL.sI s1_ok _ _ _) _ _ _) _ (by rw [List.length_take, okL_len (okL.sI (okL.sI s1_ok _ _ _) _ _ _) (c := 69) (n := 1461) (by decide) rfl (by decide), okL_len (okL.sI (okL.sI s1_ok _ _ _) _ _ _) (c := 74) (n := 89) (by decide) rfl (by decide)]; rfl)) _ (by simp only [List.length_set])) (c := 74) (n := 89) (by decide) rfl (by decide)]; rfl)) _ _ _)
                          case h4 => exact rfl
                        ·
                          obtain rfl : b = 14 := ia_one hlb hhb (by decide) (by decide)
                          obtain ⟨zx, dx, hx⟩ := c_passDays0 (d := 3) s1 isT24 ⟨rfl, rfl, rfl⟩ hn
                          have ht := c_thinks (d := 6) (sI (sI s1 24 14 zx) 24 13 dx) (okL_len s1_ok (c := 69) (n := 1461) (by decide) rfl (by decide)) (okL_len s1_ok (c := 74) (n := 89) (by decide) rfl (by decide))
                          obtain ⟨zm, dm, hm⟩ := c_goesOn0 (d := 3) (sA (sI (sI s1 24 14 zx) 24 13 dx) 74 (((sI (sI s1 24 14 zx) 24 13 dx).2.1 69).take 89)) (z := 1) (dd := 0) rfl rfl rfl rfl hn
                          apply p1_intro (v := (-1000000005))
                          case h1 =>
                            apply ex_X8_behind
                            refine rn_step rfl ?_
                            refine rb_iload rfl ?_
                            refine rb_push ?_
                            refine rb_push ?_
                            apply rb_callS3
                            case hcl => exact rfl
                            case hc =>
                              apply ex_X8_within
                              refine rn_step rfl ?_
                              refine rb_iload rfl ?_
                              refine rb_iload rfl ?_
                              refine rb_clt (fun h => absurd h (ia_nlt hla (by decide))) (fun _ => ?_)
                              refine rb_iload rfl ?_
                              refine rb_iload rfl ?_
                              refine rb_cgt (fun h => absurd h (ia_ngt hha (by decide))) (fun _ => ?_)
                              refine rb_push ?_
                              refine rb_goto ?_
                              refine rn_step rfl ?_
                              refine rb_ret rfl rfl
                            refine rb_ieq (fun h => absurd h (by decide)) (fun _ => ?_)
                            refine rb_iload rfl ?_
                            refine rb_push ?_
                            refine rb_push ?_
                            apply rb_callS3
                            case hcl => exact rfl
                            case hc =>
                              apply ex_X8_within
                              refine rn_step rfl ?_
                              refine rb_iload rfl ?_
                              refine rb_iload rfl ?_
                              refine rb_clt (fun h => absurd h (by decide)) (fun _ => ?_)
                              refine rb_iload rfl ?_
                              refine rb_iload rfl ?_
                              refine rb_cgt (fun h => absurd h (by decide)) (fun _ => ?_)
                              refine rb_push ?_
                              refine rb_goto ?_
                              refine rn_step rfl ?_
                              refine rb_ret rfl rfl
                            refine rb_ine (fun _ => ?_) (fun h => absurd (by decide) h)
                            refine rn_step rfl ?_
                            refine rb_aload rfl ?_
                            refine rb_getf (v := .ref 23) rfl ?_
                            refine rb_aload rfl ?_
                            refine rb_getf (v := .ref 1) rfl ?_
                            refine rb_iload rfl ?_
                            apply rb_callV2
                            case hb => exact rfl
                            case hcl => exact rfl
                            case hc =>
                              apply ex_X7_behindDays
                              refine rn_step rfl ?_
                              refine rb_aload rfl ?_
                              refine rb_getf (v := .ref 24) rfl ?_
                              refine rb_aload rfl ?_
                              apply rb_callV1v
                              case hb => exact rfl
                              case hcl => exact rfl
                              case hc =>
                                exact p1_become24
                              refine rb_aload rfl ?_
                              refine rb_getf (v := .ref 24) rfl ?_
                              refine rb_iload rfl ?_
                              apply rb_callV1v
                              case hb => exact rfl
                              case hcl => exact rfl
                              case hc =>
                                exact hx
                              refine rb_aload rfl ?_
                              refine rb_getf (v := .ref 24) rfl ?_
                              refine rb_ret rfl rfl
                            refine rb_astore (lv' := [some (.ref 0), some (.int (nI n)), some (.int 14), some (.ref 24)]) rfl ?_
                            refine rb_iload rfl ?_
                            refine rb_swL (n := 6) (by decide) ?_
                            refine rn_step rfl ?_
                            refine rb_aload rfl ?_
                            refine rb_getf (v := .ref 30) rfl ?_
                            refine rb_iload rfl ?_
                            refine rb_push ?_
                            refine rb_binL (z := 11) (by decide) ?_
                            refine rb_iald rfl (by decide) (show _ = some ((-1)) from rfl) ?_
                            apply rb_callS1
                            case hcl => exact rfl
                            case hc =>
                              apply ex_X8_stoneOrNone
                              refine rn_step rfl ?_
                              refine rb_iload rfl ?_
                              refine rb_push ?_
                              refine rb_cne (fun h => absurd (by decide) h) (fun _ => ?_)
                              refine rb_push ?_
                              refine rb_goto ?_
                              refine rn_step rfl ?_
                              refine rb_ret rfl rfl
                            refine rb_ret rfl rfl
                          case h2 =>
                            apply ex_X9_behind
                            refine rn_step rfl ?_
                            refine rb_iload rfl ?_
                            refine rb_push ?_
                            refine rb_push ?_
                            apply rb_callS3
                            case hcl => exact rfl
                            case hc =>
                              apply ex_X9_in
                              refine rn_step rfl ?_
                              refine rb_iload rfl ?_
                              refine rb_iload rfl ?_
                              refine rb_clt (fun h => absurd h (ia_nlt hla (by decide))) (fun _ => ?_)
                              refine rb_iload rfl ?_
                              refine rb_iload rfl ?_
                              refine rb_cgt (fun h => absurd h (ia_ngt hha (by decide))) (fun _ => ?_)
                              refine rb_push ?_
                              refine rb_goto ?_
                              refine rn_step rfl ?_
                              refine rb_ret rfl rfl
                            refine rb_ieq (fun h => absurd h (by decide)) (fun _ => ?_)
                            refine rb_iload rfl ?_
                            refine rb_push ?_
                            refine rb_push ?_
                            apply rb_callS3
                            case hcl => exact rfl
                            case hc =>
                              apply ex_X9_in
                              refine rn_step rfl ?_
                              refine rb_iload rfl ?_
                              refine rb_iload rfl ?_
                              refine rb_clt (fun h => absurd h (by decide)) (fun _ => ?_)
                              refine rb_iload rfl ?_
                              refine rb_iload rfl ?_
                              refine rb_cgt (fun h => absurd h (by decide)) (fun _ => ?_)
                              refine rb_push ?_
                              refine rb_goto ?_
                              refine rn_step rfl ?_
                              refine rb_ret rfl rfl
                            refine rb_ine (fun _ => ?_) (fun h => absurd (by decide) h)
                            refine rn_step rfl ?_
                            refine rb_aload rfl ?_
                            apply rb_callV0v
                            case hb => exact rfl
                            case hcl => exact rfl
                            case hc =>
                              exact ht
                            refine rb_aload rfl ?_
                            refine rb_iload rfl ?_
                            apply rb_callV1v
                            case hb => exact rfl
                            case hcl => exact rfl
                            case hc =>
                              exact hm
                            refine rb_iload rfl ?_
                            refine rb_push ?_
                            refine rb_cle (fun h => absurd h (by decide)) (fun _ => ?_)
                            refine rb_aload rfl ?_
                            refine rb_iload rfl ?_
                            refine rb_push ?_
                            refine rb_binL (z := 11) (by decide) ?_
                            apply rb_callV1
                            case hb => exact rfl
                            case hcl => exact rfl
                            case hc =>
                              apply ex_X9_holder
                              refine rn_step rfl ?_
                              refine rb_push ?_
                              refine rb_istore (lv' := [some (.ref 68), some (.int 11), some (.int (-1)), none]) rfl ?_
                              refine rb_push ?_
                              refine rb_istore (lv' := [some (.ref 68), some (.int 11), some (.int (-1)), some (.int 0)]) rfl ?_
                              refine rb_goto ?_
                              refine rn_step rfl ?_
                              refine rb_iload rfl ?_
                              refine rb_aload rfl ?_
                              refine rb_getf (v := .ref 69) rfl ?_
                              refine rb_push ?_
                              refine rb_iald rfl (by decide) (show _ = some (0) from rfl) ?_
                              refine rb_cge (fun _ => ?_) (fun h => absurd (by decide) h)
                              refine rn_step rfl ?_
                              refine rb_iload rfl ?_
                              refine rb_ret rfl rfl
                            apply rb_callS1
                            case hcl => exact rfl
                            case hc =>
                              apply ex_X9_told0
                              refine rn_step rfl ?_
                              refine rb_iload rfl ?_
                              refine rb_ige (fun h => absurd h (by decide)) (fun _ => ?_)
                              refine rb_push ?_
                              refine rb_goto ?_
                              refine rn_step rfl ?_
                              refine rb_ret rfl rfl
                            refine rb_goto ?_
                            refine rn_step rfl ?_
                            refine rb_istore (lv' := [some (.ref 68), some (.int (nI n)), some (.int 14), some (.int (-1000000005))]) rfl ?_
                            refine rb_aload rfl ?_
                            apply rb_callV0v
                            case hb => exact rfl
                            case hcl => exact rfl
                            case hc =>
                              exact c_putsBack (d := 6) _ (okL_len (okL.sA (okL.sA (okL.sI (okL.sI s1_ok _ _ _) _ _ _) _ (by rw [List.length_take, okL_len (okL.sI (okL.sI s1_ok _ _ _) _ _ _) (c := 69) (n := 1461) (by decide) rfl (by decide), okL_len (okL.sI (okL.sI s1_ok _ _ _) _ _ _) (c := 74) (n := 89) (by decide) rfl (by decide)]; rfl)) _ (by simp only [List.length_set])) (c := 69) (n := 1461) (by decide) rfl (by decide)) (okL_len (okL.sA (okL.sA (okL.sI (okL.sI s1_ok _ _ _) _ _ _) _ (by rw [List.length_take, okL_len (okL.sI (okL.sI s1_ok _ _ _) _ _ _) (c := 69) (n := 1461) (by decide) rfl (by decide), okL_len (okL.sI (okL.sI s1_ok _ _ _) _ _ _) (c := 74) (n := 89) (by decide) rfl (by decide)]; rfl)) _ (by simp only [List.length_set])) (c := 74) (n := 89) (by decide) rfl (by decide))
                            refine rb_iload rfl ?_
                            refine rb_ret rfl rfl
                          case h3 => exact (okL.sI (okL.sA (okL.sA (okL.sA (okL.sI (okL.sI s1_ok _ _ _) _ _ _) _ (by rw [List.length_take, okL_len (okL.sI (okL.sI s1_ok _ _ _) _ _ _) (c := 69) (n := 1461) (by decide) rfl (by decide), okL_len (okL.sI (okL.sI s1_ok _ _ _) _ _ _) (c := 74) (n := 89) (by decide) rfl (by decide)]; rfl)) _ (by simp only [List.length_set])) _ (by rw [List.length_append, List.length_take, List.length_drop, okL_len (okL.sA (okL.sA (okL.sI (okL.sI s1_ok _ _ _) _ _ _) _ (by rw [List.length_take, okL_len (okL.sI (okL.sI s1_ok _ _ _) _ _ _) (c := 69) (n := 1461) (by decide) rfl (by decide), okL_len (okL.sI (okL.sI s1_ok _ _ _) _ _ _) (c := 74) (n := 89) (by decide) rfl (by decide)]; rfl)) _ (by simp only [List.length_set])) (c := 69) (n := 1461) (by decide) rfl (by decide), okL_len (okL.sA (okL.sA (okL.sI (okL.sI s1_ok _ _ _) _ _ _) _ (by rw [List.length_take, okL_len (okL.sI (okL.sI s1_ok _ _ _) _ _ _) (c := 69) (n := 1461) (by decide) rfl (by decide), okL_len (okL.sI (okL.sI s1_ok _ _ _) _ _ _) (c := 74) (n := 89) (by decide) rfl (by decide)]; rfl)) _ (by simp only [List.length_set])) (c := 74) (n := 89) (by decide) rfl (by decide)]; rfl)) _ _ _)
                          case h4 => exact rfl
set_option maxRecDepth 1000000 in
set_option maxHeartbeats 40000000 in
theorem p1_behind (a b : Int32) : P1 94 178 [.int a, .int b] := by
  have hla : -2147483648 ≤ a.toInt := ia_lo a
  have hha : a.toInt ≤ 2147483647 := ia_hi a
  have hlb : -2147483648 ≤ b.toInt := ia_lo b
  have hhb : b.toInt ≤ 2147483647 := ia_hi b
  rcases ia_cut (c := 0) hla hha with ⟨hla, hha⟩ | ⟨hla, hha⟩
  ·
    apply p1_intro (v := (-1000000001))
    case h1 =>
      apply ex_X8_behind
      refine rn_step rfl ?_
      refine rb_iload rfl ?_
      refine rb_push ?_
      refine rb_push ?_
      apply rb_callS3
      case hcl => exact rfl
      case hc =>
        apply ex_X8_within
        refine rn_step rfl ?_
        refine rb_iload rfl ?_
        refine rb_iload rfl ?_
        refine rb_clt (fun _ => ?_) (fun h => absurd (ia_lt hha (by decide)) h)
        refine rn_step rfl ?_
        refine rb_push ?_
        refine rb_goto ?_
        refine rn_step rfl ?_
        refine rb_ret rfl rfl
      refine rb_ieq (fun _ => ?_) (fun h => absurd (by decide) h)
      refine rn_step rfl ?_
      refine rb_push ?_
      refine rb_ret rfl rfl
    case h2 =>
      apply ex_X9_behind
      refine rn_step rfl ?_
      refine rb_iload rfl ?_
      refine rb_push ?_
      refine rb_push ?_
      apply rb_callS3
      case hcl => exact rfl
      case hc =>
        apply ex_X9_in
        refine rn_step rfl ?_
        refine rb_iload rfl ?_
        refine rb_iload rfl ?_
        refine rb_clt (fun _ => ?_) (fun h => absurd (ia_lt hha (by decide)) h)
        refine rn_step rfl ?_
        refine rb_push ?_
        refine rb_goto ?_
        refine rn_step rfl ?_
        refine rb_ret rfl rfl
      refine rb_ieq (fun _ => ?_) (fun h => absurd (by decide) h)
      refine rn_step rfl ?_
      refine rb_push ?_
      refine rb_ret rfl rfl
    case h3 => exact s1_ok
    case h4 => exact rfl
  · rcases ia_cut (c := 101) hla hha with ⟨hla, hha⟩ | ⟨hla, hha⟩
    · rcases ia_cut (c := 0) hlb hhb with ⟨hlb, hhb⟩ | ⟨hlb, hhb⟩
      ·
        apply p1_intro (v := (-1000000001))
        case h1 =>
          apply ex_X8_behind
          refine rn_step rfl ?_
          refine rb_iload rfl ?_
          refine rb_push ?_
          refine rb_push ?_
          apply rb_callS3
          case hcl => exact rfl
          case hc =>
            apply ex_X8_within
            refine rn_step rfl ?_
            refine rb_iload rfl ?_
            refine rb_iload rfl ?_
            refine rb_clt (fun h => absurd h (ia_nlt hla (by decide))) (fun _ => ?_)
            refine rb_iload rfl ?_
            refine rb_iload rfl ?_
            refine rb_cgt (fun h => absurd h (ia_ngt hha (by decide))) (fun _ => ?_)
            refine rb_push ?_
            refine rb_goto ?_
            refine rn_step rfl ?_
            refine rb_ret rfl rfl
          refine rb_ieq (fun h => absurd h (by decide)) (fun _ => ?_)
          refine rb_iload rfl ?_
          refine rb_push ?_
          refine rb_push ?_
          apply rb_callS3
          case hcl => exact rfl
          case hc =>
            apply ex_X8_within
            refine rn_step rfl ?_
            refine rb_iload rfl ?_
            refine rb_iload rfl ?_
            refine rb_clt (fun _ => ?_) (fun h => absurd (ia_lt hhb (by decide)) h)
            refine rn_step rfl ?_
            refine rb_push ?_
            refine rb_goto ?_
            refine rn_step rfl ?_
            refine rb_ret rfl rfl
          refine rb_ine (fun h => absurd (by decide) h) (fun _ => ?_)
          refine rb_goto ?_
          refine rn_step rfl ?_
          refine rb_push ?_
          refine rb_ret rfl rfl
        case h2 =>
          apply ex_X9_behind
          refine rn_step rfl ?_
          refine rb_iload rfl ?_
          refine rb_push ?_
          refine rb_push ?_
          apply rb_callS3
          case hcl => exact rfl
          case hc =>
            apply ex_X9_in
            refine rn_step rfl ?_
            refine rb_iload rfl ?_
            refine rb_iload rfl ?_
            refine rb_clt (fun h => absurd h (ia_nlt hla (by decide))) (fun _ => ?_)
            refine rb_iload rfl ?_
            refine rb_iload rfl ?_
            refine rb_cgt (fun h => absurd h (ia_ngt hha (by decide))) (fun _ => ?_)
            refine rb_push ?_
            refine rb_goto ?_
            refine rn_step rfl ?_
            refine rb_ret rfl rfl
          refine rb_ieq (fun h => absurd h (by decide)) (fun _ => ?_)
          refine rb_iload rfl ?_
          refine rb_push ?_
          refine rb_push ?_
          apply rb_callS3
          case hcl => exact rfl
          case hc =>
            apply ex_X9_in
            refine rn_step rfl ?_
            refine rb_iload rfl ?_
            refine rb_iload rfl ?_
            refine rb_clt (fun _ => ?_) (fun h => absurd (ia_lt hhb (by decide)) h)
            refine rn_step rfl ?_
            refine rb_push ?_
            refine rb_goto ?_
            refine rn_step rfl ?_
            refine rb_ret rfl rfl
          refine rb_ine (fun h => absurd (by decide) h) (fun _ => ?_)
          refine rb_goto ?_
          refine rn_step rfl ?_
          refine rb_push ?_
          refine rb_ret rfl rfl
        case h3 => exact s1_ok
        case h4 => exact rfl
      · rcases ia_cut (c := 15) hlb hhb with ⟨hlb, hhb⟩ | ⟨hlb, hhb⟩
        · obtain ⟨n, hn, rfl⟩ := ia_box (l := 0) (m := 101) hla hha (by decide) (by decide)
          have e : Int32.ofInt (0 + (n : Int)) = nI n := by rw [Int.zero_add]; exact Int32.ofInt_eq_ofNat ..
          rw [e]
          exact p1_behind1 n (by omega) b hlb hhb
        ·
          apply p1_intro (v := (-1000000001))
          case h1 =>
            apply ex_X8_behind
            refine rn_step rfl ?_
            refine rb_iload rfl ?_
            refine rb_push ?_
            refine rb_push ?_
            apply rb_callS3
            case hcl => exact rfl
            case hc =>
              apply ex_X8_within
              refine rn_step rfl ?_
              refine rb_iload rfl ?_
              refine rb_iload rfl ?_
              refine rb_clt (fun h => absurd h (ia_nlt hla (by decide))) (fun _ => ?_)
              refine rb_iload rfl ?_
              refine rb_iload rfl ?_
              refine rb_cgt (fun h => absurd h (ia_ngt hha (by decide))) (fun _ => ?_)
              refine rb_push ?_
              refine rb_goto ?_
              refine rn_step rfl ?_
              refine rb_ret rfl rfl
            refine rb_ieq (fun h => absurd h (by decide)) (fun _ => ?_)
            refine rb_iload rfl ?_
            refine rb_push ?_
            refine rb_push ?_
            apply rb_callS3
            case hcl => exact rfl
            case hc =>
              apply ex_X8_within
              refine rn_step rfl ?_
              refine rb_iload rfl ?_
              refine rb_iload rfl ?_
              refine rb_clt (fun h => absurd h (ia_nlt hlb (by decide))) (fun _ => ?_)
              refine rb_iload rfl ?_
              refine rb_iload rfl ?_
              refine rb_cgt (fun _ => ?_) (fun h => absurd (ia_gt hlb (by decide)) h)
              refine rn_step rfl ?_
              refine rb_push ?_
              refine rb_goto ?_
              refine rn_step rfl ?_
              refine rb_ret rfl rfl
            refine rb_ine (fun h => absurd (by decide) h) (fun _ => ?_)
            refine rb_goto ?_
            refine rn_step rfl ?_
            refine rb_push ?_
            refine rb_ret rfl rfl
          case h2 =>
            apply ex_X9_behind
            refine rn_step rfl ?_
            refine rb_iload rfl ?_
            refine rb_push ?_
            refine rb_push ?_
            apply rb_callS3
            case hcl => exact rfl
            case hc =>
              apply ex_X9_in
              refine rn_step rfl ?_
              refine rb_iload rfl ?_
              refine rb_iload rfl ?_
              refine rb_clt (fun h => absurd h (ia_nlt hla (by decide))) (fun _ => ?_)
              refine rb_iload rfl ?_
              refine rb_iload rfl ?_
              refine rb_cgt (fun h => absurd h (ia_ngt hha (by decide))) (fun _ => ?_)
              refine rb_push ?_
              refine rb_goto ?_
              refine rn_step rfl ?_
              refine rb_ret rfl rfl
            refine rb_ieq (fun h => absurd h (by decide)) (fun _ => ?_)
            refine rb_iload rfl ?_
            refine rb_push ?_
            refine rb_push ?_
            apply rb_callS3
            case hcl => exact rfl
            case hc =>
              apply ex_X9_in
              refine rn_step rfl ?_
              refine rb_iload rfl ?_
              refine rb_iload rfl ?_
              refine rb_clt (fun h => absurd h (ia_nlt hlb (by decide))) (fun _ => ?_)
              refine rb_iload rfl ?_
              refine rb_iload rfl ?_
              refine rb_cgt (fun _ => ?_) (fun h => absurd (ia_gt hlb (by decide)) h)
              refine rn_step rfl ?_
              refine rb_push ?_
              refine rb_goto ?_
              refine rn_step rfl ?_
              refine rb_ret rfl rfl
            refine rb_ine (fun h => absurd (by decide) h) (fun _ => ?_)
            refine rb_goto ?_
            refine rn_step rfl ?_
            refine rb_push ?_
            refine rb_ret rfl rfl
          case h3 => exact s1_ok
          case h4 => exact rfl
    ·
      apply p1_intro (v := (-1000000001))
      case h1 =>
        apply ex_X8_behind
        refine rn_step rfl ?_
        refine rb_iload rfl ?_
        refine rb_push ?_
        refine rb_push ?_
        apply rb_callS3
        case hcl => exact rfl
        case hc =>
          apply ex_X8_within
          refine rn_step rfl ?_
          refine rb_iload rfl ?_
          refine rb_iload rfl ?_
          refine rb_clt (fun h => absurd h (ia_nlt hla (by decide))) (fun _ => ?_)
          refine rb_iload rfl ?_
          refine rb_iload rfl ?_
          refine rb_cgt (fun _ => ?_) (fun h => absurd (ia_gt hla (by decide)) h)
          refine rn_step rfl ?_
          refine rb_push ?_
          refine rb_goto ?_
          refine rn_step rfl ?_
          refine rb_ret rfl rfl
        refine rb_ieq (fun _ => ?_) (fun h => absurd (by decide) h)
        refine rn_step rfl ?_
        refine rb_push ?_
        refine rb_ret rfl rfl
      case h2 =>
        apply ex_X9_behind
        refine rn_step rfl ?_
        refine rb_iload rfl ?_
        refine rb_push ?_
        refine rb_push ?_
        apply rb_callS3
        case hcl => exact rfl
        case hc =>
          apply ex_X9_in
          refine rn_step rfl ?_
          refine rb_iload rfl ?_
          refine rb_iload rfl ?_
          refine rb_clt (fun h => absurd h (ia_nlt hla (by decide))) (fun _ => ?_)
          refine rb_iload rfl ?_
          refine rb_iload rfl ?_
          refine rb_cgt (fun _ => ?_) (fun h => absurd (ia_gt hla (by decide)) h)
          refine rn_step rfl ?_
          refine rb_push ?_
          refine rb_goto ?_
          refine rn_step rfl ?_
          refine rb_ret rfl rfl
        refine rb_ieq (fun _ => ?_) (fun h => absurd (by decide) h)
        refine rn_step rfl ?_
        refine rb_push ?_
        refine rb_ret rfl rfl
      case h3 => exact s1_ok
      case h4 => exact rfl
