set_option maxRecDepth 1000000 in
set_option maxHeartbeats 40000000 in
theorem p1_told (a b : Int32) : P1 76 141 [.int a, .int b] := by
  have hla : -2147483648 ≤ a.toInt := ia_lo a
  have hha : a.toInt ≤ 2147483647 := ia_hi a
  have hlb : -2147483648 ≤ b.toInt := ia_lo b
  have hhb : b.toInt ≤ 2147483647 := ia_hi b
  rcases ia_cut (c := 0) hla hha with ⟨hla, hha⟩ | ⟨hla, hha⟩
  ·
    apply p1_intro (v := (-1000000001))
    case h1 =>
      apply ex_X8_told
      refine rn_step rfl ?_
      refine rb_aload rfl ?_
      refine rb_iload rfl ?_
      apply rb_callV1
      case hb => exact rfl
      case hcl => exact rfl
      case hc =>
        apply ex_X8_isStone
        refine rn_step rfl ?_
        refine rb_iload rfl ?_
        refine rb_push ?_
        refine rb_aload rfl ?_
        refine rb_getf (v := .ref 1) rfl ?_
        refine rb_getf (v := .int 0) rfl ?_
        refine rb_push ?_
        refine rb_binL (z := (-1)) (by decide) ?_
        apply rb_callS3
        case hcl => exact rfl
        case hc =>
          apply ex_X8_within
          refine rn_step rfl ?_
          refine rb_iload rfl ?_
          refine rb_iload rfl ?_
          refine rb_clt (fun _ => ?_) (fun h => absurd (ia_lt hha (by decide)) h)
          refine rn_step rfl ?_
          refine rb_push ?_
          refine rb_goto ?_
          refine rn_step rfl ?_
          refine rb_ret rfl rfl
        refine rb_ret rfl rfl
      refine rb_ine (fun h => absurd (by decide) h) (fun _ => ?_)
      refine rb_push ?_
      refine rb_ret rfl rfl
    case h2 =>
      apply ex_X9_told
      refine rn_step rfl ?_
      refine rb_aload rfl ?_
      refine rb_iload rfl ?_
      apply rb_callV1
      case hb => exact rfl
      case hcl => exact rfl
      case hc =>
        apply ex_X9_isStone
        refine rn_step rfl ?_
        refine rb_iload rfl ?_
        refine rb_push ?_
        refine rb_aload rfl ?_
        refine rb_getf (v := .ref 69) rfl ?_
        refine rb_push ?_
        refine rb_iald rfl (by decide) (show _ = some (0) from rfl) ?_
        refine rb_push ?_
        refine rb_binL (z := (-1)) (by decide) ?_
        apply rb_callS3
        case hcl => exact rfl
        case hc =>
          apply ex_X9_in
          refine rn_step rfl ?_
          refine rb_iload rfl ?_
          refine rb_iload rfl ?_
          refine rb_clt (fun _ => ?_) (fun h => absurd (ia_lt hha (by decide)) h)
          refine rn_step rfl ?_
          refine rb_push ?_
          refine rb_goto ?_
          refine rn_step rfl ?_
          refine rb_ret rfl rfl
        refine rb_ret rfl rfl
      refine rb_ieq (fun _ => ?_) (fun h => absurd (by decide) h)
      refine rn_step rfl ?_
      refine rb_push ?_
      refine rb_ret rfl rfl
    case h3 => exact s1_ok
    case h4 => exact rfl
  ·
    apply p1_intro (v := (-1000000001))
    case h1 =>
      apply ex_X8_told
      refine rn_step rfl ?_
      refine rb_aload rfl ?_
      refine rb_iload rfl ?_
      apply rb_callV1
      case hb => exact rfl
      case hcl => exact rfl
      case hc =>
        apply ex_X8_isStone
        refine rn_step rfl ?_
        refine rb_iload rfl ?_
        refine rb_push ?_
        refine rb_aload rfl ?_
        refine rb_getf (v := .ref 1) rfl ?_
        refine rb_getf (v := .int 0) rfl ?_
        refine rb_push ?_
        refine rb_binL (z := (-1)) (by decide) ?_
        apply rb_callS3
        case hcl => exact rfl
        case hc =>
          apply ex_X8_within
          refine rn_step rfl ?_
          refine rb_iload rfl ?_
          refine rb_iload rfl ?_
          refine rb_clt (fun h => absurd h (ia_nlt hla (by decide))) (fun _ => ?_)
          refine rb_iload rfl ?_
          refine rb_iload rfl ?_
          refine rb_cgt (fun _ => ?_) (fun h => absurd (ia_gt hla (by decide)) h)
          refine rn_step rfl ?_
          refine rb_push ?_
          refine rb_goto ?_
          refine rn_step rfl ?_
          refine rb_ret rfl rfl
        refine rb_ret rfl rfl
      refine rb_ine (fun h => absurd (by decide) h) (fun _ => ?_)
      refine rb_push ?_
      refine rb_ret rfl rfl
    case h2 =>
      apply ex_X9_told
      refine rn_step rfl ?_
      refine rb_aload rfl ?_
      refine rb_iload rfl ?_
      apply rb_callV1
      case hb => exact rfl
      case hcl => exact rfl
      case hc =>
        apply ex_X9_isStone
        refine rn_step rfl ?_
        refine rb_iload rfl ?_
        refine rb_push ?_
        refine rb_aload rfl ?_
        refine rb_getf (v := .ref 69) rfl ?_
        refine rb_push ?_
        refine rb_iald rfl (by decide) (show _ = some (0) from rfl) ?_
        refine rb_push ?_
        refine rb_binL (z := (-1)) (by decide) ?_
        apply rb_callS3
        case hcl => exact rfl
        case hc =>
          apply ex_X9_in
          refine rn_step rfl ?_
          refine rb_iload rfl ?_
          refine rb_iload rfl ?_
          refine rb_clt (fun h => absurd h (ia_nlt hla (by decide))) (fun _ => ?_)
          refine rb_iload rfl ?_
          refine rb_iload rfl ?_
          refine rb_cgt (fun _ => ?_) (fun h => absurd (ia_gt hla (by decide)) h)
          refine rn_step rfl ?_
          refine rb_push ?_
          refine rb_goto ?_
          refine rn_step rfl ?_
          refine rb_ret rfl rfl
        refine rb_ret rfl rfl
      refine rb_ieq (fun _ => ?_) (fun h => absurd (by decide) h)
      refine rn_step rfl ?_
      refine rb_push ?_
      refine rb_ret rfl rfl
    case h3 => exact s1_ok
    case h4 => exact rfl
set_option maxRecDepth 1000000 in
set_option maxHeartbeats 40000000 in
theorem p1_off (a b c : Int32) : P1 77 145 [.int a, .int b, .int c] := by
  have hla : -2147483648 ≤ a.toInt := ia_lo a
  have hha : a.toInt ≤ 2147483647 := ia_hi a
  have hlb : -2147483648 ≤ b.toInt := ia_lo b
  have hhb : b.toInt ≤ 2147483647 := ia_hi b
  have hlc : -2147483648 ≤ c.toInt := ia_lo c
  have hhc : c.toInt ≤ 2147483647 := ia_hi c
  rcases ia_cut (c := 0) hla hha with ⟨hla, hha⟩ | ⟨hla, hha⟩
  ·
    apply p1_intro (v := (-1000000001))
    case h1 =>
      apply ex_X8_off
      refine rn_step rfl ?_
      refine rb_aload rfl ?_
      refine rb_iload rfl ?_
      apply rb_callV1
      case hb => exact rfl
      case hcl => exact rfl
      case hc =>
        apply ex_X8_isStone
        refine rn_step rfl ?_
        refine rb_iload rfl ?_
        refine rb_push ?_
        refine rb_aload rfl ?_
        refine rb_getf (v := .ref 1) rfl ?_
        refine rb_getf (v := .int 0) rfl ?_
        refine rb_push ?_
        refine rb_binL (z := (-1)) (by decide) ?_
        apply rb_callS3
        case hcl => exact rfl
        case hc =>
          apply ex_X8_within
          refine rn_step rfl ?_
          refine rb_iload rfl ?_
          refine rb_iload rfl ?_
          refine rb_clt (fun _ => ?_) (fun h => absurd (ia_lt hha (by decide)) h)
          refine rn_step rfl ?_
          refine rb_push ?_
          refine rb_goto ?_
          refine rn_step rfl ?_
          refine rb_ret rfl rfl
        refine rb_ret rfl rfl
      refine rb_ieq (fun _ => ?_) (fun h => absurd (by decide) h)
      refine rn_step rfl ?_
      refine rb_push ?_
      refine rb_ret rfl rfl
    case h2 =>
      apply ex_X9_off
      refine rn_step rfl ?_
      refine rb_aload rfl ?_
      refine rb_iload rfl ?_
      apply rb_callV1
      case hb => exact rfl
      case hcl => exact rfl
      case hc =>
        apply ex_X9_isStone
        refine rn_step rfl ?_
        refine rb_iload rfl ?_
        refine rb_push ?_
        refine rb_aload rfl ?_
        refine rb_getf (v := .ref 69) rfl ?_
        refine rb_push ?_
        refine rb_iald rfl (by decide) (show _ = some (0) from rfl) ?_
        refine rb_push ?_
        refine rb_binL (z := (-1)) (by decide) ?_
        apply rb_callS3
        case hcl => exact rfl
        case hc =>
          apply ex_X9_in
          refine rn_step rfl ?_
          refine rb_iload rfl ?_
          refine rb_iload rfl ?_
          refine rb_clt (fun _ => ?_) (fun h => absurd (ia_lt hha (by decide)) h)
          refine rn_step rfl ?_
          refine rb_push ?_
          refine rb_goto ?_
          refine rn_step rfl ?_
          refine rb_ret rfl rfl
        refine rb_ret rfl rfl
      refine rb_ieq (fun _ => ?_) (fun h => absurd (by decide) h)
      refine rn_step rfl ?_
      refine rb_push ?_
      refine rb_goto ?_
      refine rn_step rfl ?_
      refine rb_ret rfl rfl
    case h3 => exact s1_ok
    case h4 => exact rfl
  ·
    apply p1_intro (v := (-1000000001))
    case h1 =>
      apply ex_X8_off
      refine rn_step rfl ?_
      refine rb_aload rfl ?_
      refine rb_iload rfl ?_
      apply rb_callV1
      case hb => exact rfl
      case hcl => exact rfl
      case hc =>
        apply ex_X8_isStone
        refine rn_step rfl ?_
        refine rb_iload rfl ?_
        refine rb_push ?_
        refine rb_aload rfl ?_
        refine rb_getf (v := .ref 1) rfl ?_
        refine rb_getf (v := .int 0) rfl ?_
        refine rb_push ?_
        refine rb_binL (z := (-1)) (by decide) ?_
        apply rb_callS3
        case hcl => exact rfl
        case hc =>
          apply ex_X8_within
          refine rn_step rfl ?_
          refine rb_iload rfl ?_
          refine rb_iload rfl ?_
          refine rb_clt (fun h => absurd h (ia_nlt hla (by decide))) (fun _ => ?_)
          refine rb_iload rfl ?_
          refine rb_iload rfl ?_
          refine rb_cgt (fun _ => ?_) (fun h => absurd (ia_gt hla (by decide)) h)
          refine rn_step rfl ?_
          refine rb_push ?_
          refine rb_goto ?_
          refine rn_step rfl ?_
          refine rb_ret rfl rfl
        refine rb_ret rfl rfl
      refine rb_ieq (fun _ => ?_) (fun h => absurd (by decide) h)
      refine rn_step rfl ?_
      refine rb_push ?_
      refine rb_ret rfl rfl
    case h2 =>
      apply ex_X9_off
      refine rn_step rfl ?_
      refine rb_aload rfl ?_
      refine rb_iload rfl ?_
      apply rb_callV1
      case hb => exact rfl
      case hcl => exact rfl
      case hc =>
        apply ex_X9_isStone
        refine rn_step rfl ?_
        refine rb_iload rfl ?_
        refine rb_push ?_
        refine rb_aload rfl ?_
        refine rb_getf (v := .ref 69) rfl ?_
        refine rb_push ?_
        refine rb_iald rfl (by decide) (show _ = some (0) from rfl) ?_
        refine rb_push ?_
        refine rb_binL (z := (-1)) (by decide) ?_
        apply rb_callS3
        case hcl => exact rfl
        case hc =>
          apply ex_X9_in
          refine rn_step rfl ?_
          refine rb_iload rfl ?_
          refine rb_iload rfl ?_
          refine rb_clt (fun h => absurd h (ia_nlt hla (by decide))) (fun _ => ?_)
          refine rb_iload rfl ?_
          refine rb_iload rfl ?_
          refine rb_cgt (fun _ => ?_) (fun h => absurd (ia_gt hla (by decide)) h)
          refine rn_step rfl ?_
          refine rb_push ?_
          refine rb_goto ?_
          refine rn_step rfl ?_
          refine rb_ret rfl rfl
        refine rb_ret rfl rfl
      refine rb_ieq (fun _ => ?_) (fun h => absurd (by decide) h)
      refine rn_step rfl ?_
      refine rb_push ?_
      refine rb_goto ?_
      refine rn_step rfl ?_
      refine rb_ret rfl rfl
    case h3 => exact s1_ok
    case h4 => exact rfl
set_option maxRecDepth 1000000 in
set_option maxHeartbeats 40000000 in
theorem p1_as (a b : Int32) : P1 78 147 [.int a, .int b] := by
  have hla : -2147483648 ≤ a.toInt := ia_lo a
  have hha : a.toInt ≤ 2147483647 := ia_hi a
  have hlb : -2147483648 ≤ b.toInt := ia_lo b
  have hhb : b.toInt ≤ 2147483647 := ia_hi b
  rcases ia_cut (c := 0) hla hha with ⟨hla, hha⟩ | ⟨hla, hha⟩
  ·
    apply p1_intro (v := (-1000000001))
    case h1 =>
      apply ex_X8_as
      refine rn_step rfl ?_
      refine rb_aload rfl ?_
      refine rb_iload rfl ?_
      apply rb_callV1
      case hb => exact rfl
      case hcl => exact rfl
      case hc =>
        apply ex_X8_isStone
        refine rn_step rfl ?_
        refine rb_iload rfl ?_
        refine rb_push ?_
        refine rb_aload rfl ?_
        refine rb_getf (v := .ref 1) rfl ?_
        refine rb_getf (v := .int 0) rfl ?_
        refine rb_push ?_
        refine rb_binL (z := (-1)) (by decide) ?_
        apply rb_callS3
        case hcl => exact rfl
        case hc =>
          apply ex_X8_within
          refine rn_step rfl ?_
          refine rb_iload rfl ?_
          refine rb_iload rfl ?_
          refine rb_clt (fun _ => ?_) (fun h => absurd (ia_lt hha (by decide)) h)
          refine rn_step rfl ?_
          refine rb_push ?_
          refine rb_goto ?_
          refine rn_step rfl ?_
          refine rb_ret rfl rfl
        refine rb_ret rfl rfl
      refine rb_ieq (fun _ => ?_) (fun h => absurd (by decide) h)
      refine rn_step rfl ?_
      refine rb_push ?_
      refine rb_ret rfl rfl
    case h2 =>
      apply ex_X9_as
      refine rn_step rfl ?_
      refine rb_aload rfl ?_
      refine rb_iload rfl ?_
      apply rb_callV1
      case hb => exact rfl
      case hcl => exact rfl
      case hc =>
        apply ex_X9_isStone
        refine rn_step rfl ?_
        refine rb_iload rfl ?_
        refine rb_push ?_
        refine rb_aload rfl ?_
        refine rb_getf (v := .ref 69) rfl ?_
        refine rb_push ?_
        refine rb_iald rfl (by decide) (show _ = some (0) from rfl) ?_
        refine rb_push ?_
        refine rb_binL (z := (-1)) (by decide) ?_
        apply rb_callS3
        case hcl => exact rfl
        case hc =>
          apply ex_X9_in
          refine rn_step rfl ?_
          refine rb_iload rfl ?_
          refine rb_iload rfl ?_
          refine rb_clt (fun _ => ?_) (fun h => absurd (ia_lt hha (by decide)) h)
          refine rn_step rfl ?_
          refine rb_push ?_
          refine rb_goto ?_
          refine rn_step rfl ?_
          refine rb_ret rfl rfl
        refine rb_ret rfl rfl
      refine rb_ieq (fun _ => ?_) (fun h => absurd (by decide) h)
      refine rn_step rfl ?_
      refine rb_push ?_
      refine rb_ret rfl rfl
    case h3 => exact s1_ok
    case h4 => exact rfl
  ·
    apply p1_intro (v := (-1000000001))
    case h1 =>
      apply ex_X8_as
      refine rn_step rfl ?_
      refine rb_aload rfl ?_
      refine rb_iload rfl ?_
      apply rb_callV1
      case hb => exact rfl
      case hcl => exact rfl
      case hc =>
        apply ex_X8_isStone
        refine rn_step rfl ?_
        refine rb_iload rfl ?_
        refine rb_push ?_
        refine rb_aload rfl ?_
        refine rb_getf (v := .ref 1) rfl ?_
        refine rb_getf (v := .int 0) rfl ?_
        refine rb_push ?_
        refine rb_binL (z := (-1)) (by decide) ?_
        apply rb_callS3
        case hcl => exact rfl
        case hc =>
          apply ex_X8_within
          refine rn_step rfl ?_
          refine rb_iload rfl ?_
          refine rb_iload rfl ?_
          refine rb_clt (fun h => absurd h (ia_nlt hla (by decide))) (fun _ => ?_)
          refine rb_iload rfl ?_
          refine rb_iload rfl ?_
          refine rb_cgt (fun _ => ?_) (fun h => absurd (ia_gt hla (by decide)) h)
          refine rn_step rfl ?_
          refine rb_push ?_
          refine rb_goto ?_
          refine rn_step rfl ?_
          refine rb_ret rfl rfl
        refine rb_ret rfl rfl
      refine rb_ieq (fun _ => ?_) (fun h => absurd (by decide) h)
      refine rn_step rfl ?_
      refine rb_push ?_
      refine rb_ret rfl rfl
    case h2 =>
      apply ex_X9_as
      refine rn_step rfl ?_
      refine rb_aload rfl ?_
      refine rb_iload rfl ?_
      apply rb_callV1
      case hb => exact rfl
      case hcl => exact rfl
      case hc =>
        apply ex_X9_isStone
        refine rn_step rfl ?_
        refine rb_iload rfl ?_
        refine rb_push ?_
        refine rb_aload rfl ?_
        refine rb_getf (v := .ref 69) rfl ?_
        refine rb_push ?_
        refine rb_iald rfl (by decide) (show _ = some (0) from rfl) ?_
        refine rb_push ?_
        refine rb_binL (z := (-1)) (by decide) ?_
        apply rb_callS3
        case hcl => exact rfl
        case hc =>
          apply ex_X9_in
          refine rn_step rfl ?_
          refine rb_iload rfl ?_
          refine rb_iload rfl ?_
          refine rb_clt (fun h => absurd h (ia_nlt hla (by decide))) (fun _ => ?_)
          refine rb_iload rfl ?_
          refine rb_iload rfl ?_
          refine rb_cgt (fun _ => ?_) (fun h => absurd (ia_gt hla (by decide)) h)
          refine rn_step rfl ?_
          refine rb_push ?_
          refine rb_goto ?_
          refine rn_step rfl ?_
          refine rb_ret rfl rfl
        refine rb_ret rfl rfl
      refine rb_ieq (fun _ => ?_) (fun h => absurd (by decide) h)
      refine rn_step rfl ?_
      refine rb_push ?_
      refine rb_ret rfl rfl
    case h3 => exact s1_ok
    case h4 => exact rfl
set_option maxRecDepth 1000000 in
set_option maxHeartbeats 40000000 in
theorem p1_turns (a b : Int32) : P1 79 148 [.int a, .int b] := by
  have hla : -2147483648 ≤ a.toInt := ia_lo a
  have hha : a.toInt ≤ 2147483647 := ia_hi a
  have hlb : -2147483648 ≤ b.toInt := ia_lo b
  have hhb : b.toInt ≤ 2147483647 := ia_hi b
  rcases ia_cut (c := 0) hla hha with ⟨hla, hha⟩ | ⟨hla, hha⟩
  ·
    apply p1_intro (v := (-1000000001))
    case h1 =>
      apply ex_X8_turns
      refine rn_step rfl ?_
      refine rb_aload rfl ?_
      refine rb_iload rfl ?_
      apply rb_callV1
      case hb => exact rfl
      case hcl => exact rfl
      case hc =>
        apply ex_X8_isStone
        refine rn_step rfl ?_
        refine rb_iload rfl ?_
        refine rb_push ?_
        refine rb_aload rfl ?_
        refine rb_getf (v := .ref 1) rfl ?_
        refine rb_getf (v := .int 0) rfl ?_
        refine rb_push ?_
        refine rb_binL (z := (-1)) (by decide) ?_
        apply rb_callS3
        case hcl => exact rfl
        case hc =>
          apply ex_X8_within
          refine rn_step rfl ?_
          refine rb_iload rfl ?_
          refine rb_iload rfl ?_
          refine rb_clt (fun _ => ?_) (fun h => absurd (ia_lt hha (by decide)) h)
          refine rn_step rfl ?_
          refine rb_push ?_
          refine rb_goto ?_
          refine rn_step rfl ?_
          refine rb_ret rfl rfl
        refine rb_ret rfl rfl
      refine rb_ieq (fun _ => ?_) (fun h => absurd (by decide) h)
      refine rn_step rfl ?_
      refine rb_push ?_
      refine rb_ret rfl rfl
    case h2 =>
      apply ex_X9_turns
      refine rn_step rfl ?_
      refine rb_aload rfl ?_
      refine rb_iload rfl ?_
      apply rb_callV1
      case hb => exact rfl
      case hcl => exact rfl
      case hc =>
        apply ex_X9_isStone
        refine rn_step rfl ?_
        refine rb_iload rfl ?_
        refine rb_push ?_
        refine rb_aload rfl ?_
        refine rb_getf (v := .ref 69) rfl ?_
        refine rb_push ?_
        refine rb_iald rfl (by decide) (show _ = some (0) from rfl) ?_
        refine rb_push ?_
        refine rb_binL (z := (-1)) (by decide) ?_
        apply rb_callS3
        case hcl => exact rfl
        case hc =>
          apply ex_X9_in
          refine rn_step rfl ?_
          refine rb_iload rfl ?_
          refine rb_iload rfl ?_
          refine rb_clt (fun _ => ?_) (fun h => absurd (ia_lt hha (by decide)) h)
          refine rn_step rfl ?_
          refine rb_push ?_
          refine rb_goto ?_
          refine rn_step rfl ?_
          refine rb_ret rfl rfl
        refine rb_ret rfl rfl
      refine rb_ieq (fun _ => ?_) (fun h => absurd (by decide) h)
      refine rn_step rfl ?_
      refine rb_push ?_
      refine rb_goto ?_
      refine rn_step rfl ?_
      refine rb_ret rfl rfl
    case h3 => exact s1_ok
    case h4 => exact rfl
  ·
    apply p1_intro (v := (-1000000001))
    case h1 =>
      apply ex_X8_turns
      refine rn_step rfl ?_
      refine rb_aload rfl ?_
      refine rb_iload rfl ?_
      apply rb_callV1
      case hb => exact rfl
      case hcl => exact rfl
      case hc =>
        apply ex_X8_isStone
        refine rn_step rfl ?_
        refine rb_iload rfl ?_
        refine rb_push ?_
        refine rb_aload rfl ?_
        refine rb_getf (v := .ref 1) rfl ?_
        refine rb_getf (v := .int 0) rfl ?_
        refine rb_push ?_
        refine rb_binL (z := (-1)) (by decide) ?_
        apply rb_callS3
        case hcl => exact rfl
        case hc =>
          apply ex_X8_within
          refine rn_step rfl ?_
          refine rb_iload rfl ?_
          refine rb_iload rfl ?_
          refine rb_clt (fun h => absurd h (ia_nlt hla (by decide))) (fun _ => ?_)
          refine rb_iload rfl ?_
          refine rb_iload rfl ?_
          refine rb_cgt (fun _ => ?_) (fun h => absurd (ia_gt hla (by decide)) h)
          refine rn_step rfl ?_
          refine rb_push ?_
          refine rb_goto ?_
          refine rn_step rfl ?_
          refine rb_ret rfl rfl
        refine rb_ret rfl rfl
      refine rb_ieq (fun _ => ?_) (fun h => absurd (by decide) h)
      refine rn_step rfl ?_
      refine rb_push ?_
      refine rb_ret rfl rfl
    case h2 =>
      apply ex_X9_turns
      refine rn_step rfl ?_
      refine rb_aload rfl ?_
      refine rb_iload rfl ?_
      apply rb_callV1
      case hb => exact rfl
      case hcl => exact rfl
      case hc =>
        apply ex_X9_isStone
        refine rn_step rfl ?_
        refine rb_iload rfl ?_
        refine rb_push ?_
        refine rb_aload rfl ?_
        refine rb_getf (v := .ref 69) rfl ?_
        refine rb_push ?_
        refine rb_iald rfl (by decide) (show _ = some (0) from rfl) ?_
        refine rb_push ?_
        refine rb_binL (z := (-1)) (by decide) ?_
        apply rb_callS3
        case hcl => exact rfl
        case hc =>
          apply ex_X9_in
          refine rn_step rfl ?_
          refine rb_iload rfl ?_
          refine rb_iload rfl ?_
          refine rb_clt (fun h => absurd h (ia_nlt hla (by decide))) (fun _ => ?_)
          refine rb_iload rfl ?_
          refine rb_iload rfl ?_
          refine rb_cgt (fun _ => ?_) (fun h => absurd (ia_gt hla (by decide)) h)
          refine rn_step rfl ?_
          refine rb_push ?_
          refine rb_goto ?_
          refine rn_step rfl ?_
          refine rb_ret rfl rfl
        refine rb_ret rfl rfl
      refine rb_ieq (fun _ => ?_) (fun h => absurd (by decide) h)
      refine rn_step rfl ?_
      refine rb_push ?_
      refine rb_goto ?_
      refine rn_step rfl ?_
      refine rb_ret rfl rfl
    case h3 => exact s1_ok
    case h4 => exact rfl
set_option maxRecDepth 1000000 in
set_option maxHeartbeats 40000000 in
theorem p1_put (a b c : Int32) : P1 80 150 [.int a, .int b, .int c] := by
  have hla : -2147483648 ≤ a.toInt := ia_lo a
  have hha : a.toInt ≤ 2147483647 := ia_hi a
  have hlb : -2147483648 ≤ b.toInt := ia_lo b
  have hhb : b.toInt ≤ 2147483647 := ia_hi b
  have hlc : -2147483648 ≤ c.toInt := ia_lo c
  have hhc : c.toInt ≤ 2147483647 := ia_hi c
  rcases ia_cut (c := 0) hla hha with ⟨hla, hha⟩ | ⟨hla, hha⟩
  ·
    apply p1_intro (v := (-1000000001))
    case h1 =>
      apply ex_X8_put
      refine rn_step rfl ?_
      refine rb_aload rfl ?_
      refine rb_iload rfl ?_
      apply rb_callV1
      case hb => exact rfl
      case hcl => exact rfl
      case hc =>
        apply ex_X8_isStone
        refine rn_step rfl ?_
        refine rb_iload rfl ?_
        refine rb_push ?_
        refine rb_aload rfl ?_
        refine rb_getf (v := .ref 1) rfl ?_
        refine rb_getf (v := .int 0) rfl ?_
        refine rb_push ?_
        refine rb_binL (z := (-1)) (by decide) ?_
        apply rb_callS3
        case hcl => exact rfl
        case hc =>
          apply ex_X8_within
          refine rn_step rfl ?_
          refine rb_iload rfl ?_
          refine rb_iload rfl ?_
          refine rb_clt (fun _ => ?_) (fun h => absurd (ia_lt hha (by decide)) h)
          refine rn_step rfl ?_
          refine rb_push ?_
          refine rb_goto ?_
          refine rn_step rfl ?_
          refine rb_ret rfl rfl
        refine rb_ret rfl rfl
      refine rb_ieq (fun _ => ?_) (fun h => absurd (by decide) h)
      refine rn_step rfl ?_
      refine rb_push ?_
      refine rb_ret rfl rfl
    case h2 =>
      apply ex_X9_put
      refine rn_step rfl ?_
      refine rb_aload rfl ?_
      refine rb_iload rfl ?_
      apply rb_callV1
      case hb => exact rfl
      case hcl => exact rfl
      case hc =>
        apply ex_X9_isStone
        refine rn_step rfl ?_
        refine rb_iload rfl ?_
        refine rb_push ?_
        refine rb_aload rfl ?_
        refine rb_getf (v := .ref 69) rfl ?_
        refine rb_push ?_
        refine rb_iald rfl (by decide) (show _ = some (0) from rfl) ?_
        refine rb_push ?_
        refine rb_binL (z := (-1)) (by decide) ?_
        apply rb_callS3
        case hcl => exact rfl
        case hc =>
          apply ex_X9_in
          refine rn_step rfl ?_
          refine rb_iload rfl ?_
          refine rb_iload rfl ?_
          refine rb_clt (fun _ => ?_) (fun h => absurd (ia_lt hha (by decide)) h)
          refine rn_step rfl ?_
          refine rb_push ?_
          refine rb_goto ?_
          refine rn_step rfl ?_
          refine rb_ret rfl rfl
        refine rb_ret rfl rfl
      refine rb_ieq (fun _ => ?_) (fun h => absurd (by decide) h)
      refine rn_step rfl ?_
      refine rb_push ?_
      refine rb_ret rfl rfl
    case h3 => exact s1_ok
    case h4 => exact rfl
  ·
    apply p1_intro (v := (-1000000001))
    case h1 =>
      apply ex_X8_put
      refine rn_step rfl ?_
      refine rb_aload rfl ?_
      refine rb_iload rfl ?_
      apply rb_callV1
      case hb => exact rfl
      case hcl => exact rfl
      case hc =>
        apply ex_X8_isStone
        refine rn_step rfl ?_
        refine rb_iload rfl ?_
        refine rb_push ?_
        refine rb_aload rfl ?_
        refine rb_getf (v := .ref 1) rfl ?_
        refine rb_getf (v := .int 0) rfl ?_
        refine rb_push ?_
        refine rb_binL (z := (-1)) (by decide) ?_
        apply rb_callS3
        case hcl => exact rfl
        case hc =>
          apply ex_X8_within
          refine rn_step rfl ?_
          refine rb_iload rfl ?_
          refine rb_iload rfl ?_
          refine rb_clt (fun h => absurd h (ia_nlt hla (by decide))) (fun _ => ?_)
          refine rb_iload rfl ?_
          refine rb_iload rfl ?_
          refine rb_cgt (fun _ => ?_) (fun h => absurd (ia_gt hla (by decide)) h)
          refine rn_step rfl ?_
          refine rb_push ?_
          refine rb_goto ?_
          refine rn_step rfl ?_
          refine rb_ret rfl rfl
        refine rb_ret rfl rfl
      refine rb_ieq (fun _ => ?_) (fun h => absurd (by decide) h)
      refine rn_step rfl ?_
      refine rb_push ?_
      refine rb_ret rfl rfl
    case h2 =>
      apply ex_X9_put
      refine rn_step rfl ?_
      refine rb_aload rfl ?_
      refine rb_iload rfl ?_
      apply rb_callV1
      case hb => exact rfl
      case hcl => exact rfl
      case hc =>
        apply ex_X9_isStone
        refine rn_step rfl ?_
        refine rb_iload rfl ?_
        refine rb_push ?_
        refine rb_aload rfl ?_
        refine rb_getf (v := .ref 69) rfl ?_
        refine rb_push ?_
        refine rb_iald rfl (by decide) (show _ = some (0) from rfl) ?_
        refine rb_push ?_
        refine rb_binL (z := (-1)) (by decide) ?_
        apply rb_callS3
        case hcl => exact rfl
        case hc =>
          apply ex_X9_in
          refine rn_step rfl ?_
          refine rb_iload rfl ?_
          refine rb_iload rfl ?_
          refine rb_clt (fun h => absurd h (ia_nlt hla (by decide))) (fun _ => ?_)
          refine rb_iload rfl ?_
          refine rb_iload rfl ?_
          refine rb_cgt (fun _ => ?_) (fun h => absurd (ia_gt hla (by decide)) h)
          refine rn_step rfl ?_
          refine rb_push ?_
          refine rb_goto ?_
          refine rn_step rfl ?_
          refine rb_ret rfl rfl
        refine rb_ret rfl rfl
      refine rb_ieq (fun _ => ?_) (fun h => absurd (by decide) h)
      refine rn_step rfl ?_
      refine rb_push ?_
      refine rb_ret rfl rfl
    case h3 => exact s1_ok
    case h4 => exact rfl
set_option maxRecDepth 1000000 in
set_option maxHeartbeats 40000000 in
theorem p1_box (a : Int32) : P1 81 151 [.int a] := by
  have hla : -2147483648 ≤ a.toInt := ia_lo a
  have hha : a.toInt ≤ 2147483647 := ia_hi a
  rcases ia_cut (c := 0) hla hha with ⟨hla, hha⟩ | ⟨hla, hha⟩
  ·
    apply p1_intro (v := (-1000000001))
    case h1 =>
      apply ex_X8_box
      refine rn_step rfl ?_
      refine rb_aload rfl ?_
      refine rb_iload rfl ?_
      apply rb_callV1
      case hb => exact rfl
      case hcl => exact rfl
      case hc =>
        apply ex_X8_isStone
        refine rn_step rfl ?_
        refine rb_iload rfl ?_
        refine rb_push ?_
        refine rb_aload rfl ?_
        refine rb_getf (v := .ref 1) rfl ?_
        refine rb_getf (v := .int 0) rfl ?_
        refine rb_push ?_
        refine rb_binL (z := (-1)) (by decide) ?_
        apply rb_callS3
        case hcl => exact rfl
        case hc =>
          apply ex_X8_within
          refine rn_step rfl ?_
          refine rb_iload rfl ?_
          refine rb_iload rfl ?_
          refine rb_clt (fun _ => ?_) (fun h => absurd (ia_lt hha (by decide)) h)
          refine rn_step rfl ?_
          refine rb_push ?_
          refine rb_goto ?_
          refine rn_step rfl ?_
          refine rb_ret rfl rfl
        refine rb_ret rfl rfl
      refine rb_ine (fun h => absurd (by decide) h) (fun _ => ?_)
      refine rb_push ?_
      refine rb_ret rfl rfl
    case h2 =>
      apply ex_X9_box
      refine rn_step rfl ?_
      refine rb_aload rfl ?_
      refine rb_iload rfl ?_
      apply rb_callV1
      case hb => exact rfl
      case hcl => exact rfl
      case hc =>
        apply ex_X9_isStone
        refine rn_step rfl ?_
        refine rb_iload rfl ?_
        refine rb_push ?_
        refine rb_aload rfl ?_
        refine rb_getf (v := .ref 69) rfl ?_
        refine rb_push ?_
        refine rb_iald rfl (by decide) (show _ = some (0) from rfl) ?_
        refine rb_push ?_
        refine rb_binL (z := (-1)) (by decide) ?_
        apply rb_callS3
        case hcl => exact rfl
        case hc =>
          apply ex_X9_in
          refine rn_step rfl ?_
          refine rb_iload rfl ?_
          refine rb_iload rfl ?_
          refine rb_clt (fun _ => ?_) (fun h => absurd (ia_lt hha (by decide)) h)
          refine rn_step rfl ?_
          refine rb_push ?_
          refine rb_goto ?_
          refine rn_step rfl ?_
          refine rb_ret rfl rfl
        refine rb_ret rfl rfl
      refine rb_ieq (fun _ => ?_) (fun h => absurd (by decide) h)
      refine rn_step rfl ?_
      refine rb_push ?_
      refine rb_goto ?_
      refine rn_step rfl ?_
      refine rb_ret rfl rfl
    case h3 => exact s1_ok
    case h4 => exact rfl
  ·
    apply p1_intro (v := (-1000000001))
    case h1 =>
      apply ex_X8_box
      refine rn_step rfl ?_
      refine rb_aload rfl ?_
      refine rb_iload rfl ?_
      apply rb_callV1
      case hb => exact rfl
      case hcl => exact rfl
      case hc =>
        apply ex_X8_isStone
        refine rn_step rfl ?_
        refine rb_iload rfl ?_
        refine rb_push ?_
        refine rb_aload rfl ?_
        refine rb_getf (v := .ref 1) rfl ?_
        refine rb_getf (v := .int 0) rfl ?_
        refine rb_push ?_
        refine rb_binL (z := (-1)) (by decide) ?_
        apply rb_callS3
        case hcl => exact rfl
        case hc =>
          apply ex_X8_within
          refine rn_step rfl ?_
          refine rb_iload rfl ?_
          refine rb_iload rfl ?_
          refine rb_clt (fun h => absurd h (ia_nlt hla (by decide))) (fun _ => ?_)
          refine rb_iload rfl ?_
          refine rb_iload rfl ?_
          refine rb_cgt (fun _ => ?_) (fun h => absurd (ia_gt hla (by decide)) h)
          refine rn_step rfl ?_
          refine rb_push ?_
          refine rb_goto ?_
          refine rn_step rfl ?_
          refine rb_ret rfl rfl
        refine rb_ret rfl rfl
      refine rb_ine (fun h => absurd (by decide) h) (fun _ => ?_)
      refine rb_push ?_
      refine rb_ret rfl rfl
    case h2 =>
      apply ex_X9_box
      refine rn_step rfl ?_
      refine rb_aload rfl ?_
      refine rb_iload rfl ?_
      apply rb_callV1
      case hb => exact rfl
      case hcl => exact rfl
      case hc =>
        apply ex_X9_isStone
        refine rn_step rfl ?_
        refine rb_iload rfl ?_
        refine rb_push ?_
        refine rb_aload rfl ?_
        refine rb_getf (v := .ref 69) rfl ?_
        refine rb_push ?_
        refine rb_iald rfl (by decide) (show _ = some (0) from rfl) ?_
        refine rb_push ?_
        refine rb_binL (z := (-1)) (by decide) ?_
        apply rb_callS3
        case hcl => exact rfl
        case hc =>
          apply ex_X9_in
          refine rn_step rfl ?_
          refine rb_iload rfl ?_
          refine rb_iload rfl ?_
          refine rb_clt (fun h => absurd h (ia_nlt hla (by decide))) (fun _ => ?_)
          refine rb_iload rfl ?_
          refine rb_iload rfl ?_
          refine rb_cgt (fun _ => ?_) (fun h => absurd (ia_gt hla (by decide)) h)
          refine rn_step rfl ?_
          refine rb_push ?_
          refine rb_goto ?_
          refine rn_step rfl ?_
          refine rb_ret rfl rfl
        refine rb_ret rfl rfl
      refine rb_ieq (fun _ => ?_) (fun h => absurd (by decide) h)
      refine rn_step rfl ?_
      refine rb_push ?_
      refine rb_goto ?_
      refine rn_step rfl ?_
      refine rb_ret rfl rfl
    case h3 => exact s1_ok
    case h4 => exact rfl
set_option maxRecDepth 1000000 in
set_option maxHeartbeats 40000000 in
theorem p1_textTold (a b : Int32) : P1 103 201 [.int a, .int b] := by
  have hla : -2147483648 ≤ a.toInt := ia_lo a
  have hha : a.toInt ≤ 2147483647 := ia_hi a
  have hlb : -2147483648 ≤ b.toInt := ia_lo b
  have hhb : b.toInt ≤ 2147483647 := ia_hi b
  rcases ia_cut (c := 0) hla hha with ⟨hla, hha⟩ | ⟨hla, hha⟩
  ·
    apply p1_intro (v := (-1000000001))
    case h1 =>
      apply ex_X8_textTold
      refine rn_step rfl ?_
      refine rb_aload rfl ?_
      refine rb_getf (v := .ref 1) rfl ?_
      refine rb_iload rfl ?_
      apply rb_callV1
      case hb => exact rfl
      case hcl => exact rfl
      case hc =>
        apply ex_X4_textAt
        refine rn_step rfl ?_
        refine rb_iload rfl ?_
        refine rb_push ?_
        refine rb_aload rfl ?_
        refine rb_getf (v := .int 0) rfl ?_
        refine rb_push ?_
        refine rb_binL (z := (-1)) (by decide) ?_
        apply rb_callS3
        case hcl => exact rfl
        case hc =>
          apply ex_X8_within
          refine rn_step rfl ?_
          refine rb_iload rfl ?_
          refine rb_iload rfl ?_
          refine rb_clt (fun _ => ?_) (fun h => absurd (ia_lt hha (by decide)) h)
          refine rn_step rfl ?_
          refine rb_push ?_
          refine rb_goto ?_
          refine rn_step rfl ?_
          refine rb_ret rfl rfl
        refine rb_ieq (fun _ => ?_) (fun h => absurd (by decide) h)
        refine rn_step rfl ?_
        refine rb_push ?_
        refine rb_goto ?_
        refine rn_step rfl ?_
        refine rb_ret rfl rfl
      refine rb_astoreN (lv' := [some (.ref 0), some (.int (a)), some (.int (b)), some (.null)]) rfl ?_
      refine rb_aloadN rfl ?_
      refine rb_ifnullN ?_
      refine rn_step rfl ?_
      refine rb_push ?_
      refine rb_ret rfl rfl
    case h2 =>
      apply ex_X9_textTold
      refine rn_step rfl ?_
      refine rb_iload rfl ?_
      refine rb_push ?_
      refine rb_aload rfl ?_
      refine rb_getf (v := .ref 69) rfl ?_
      refine rb_push ?_
      refine rb_iald rfl (by decide) (show _ = some (0) from rfl) ?_
      refine rb_push ?_
      refine rb_binL (z := (-1)) (by decide) ?_
      apply rb_callS3
      case hcl => exact rfl
      case hc =>
        apply ex_X9_in
        refine rn_step rfl ?_
        refine rb_iload rfl ?_
        refine rb_iload rfl ?_
        refine rb_clt (fun _ => ?_) (fun h => absurd (ia_lt hha (by decide)) h)
        refine rn_step rfl ?_
        refine rb_push ?_
        refine rb_goto ?_
        refine rn_step rfl ?_
        refine rb_ret rfl rfl
      refine rb_ieq (fun _ => ?_) (fun h => absurd (by decide) h)
      refine rn_step rfl ?_
      refine rb_push ?_
      refine rb_ret rfl rfl
    case h3 => exact s1_ok
    case h4 => exact rfl
  ·
    apply p1_intro (v := (-1000000001))
    case h1 =>
      apply ex_X8_textTold
      refine rn_step rfl ?_
      refine rb_aload rfl ?_
      refine rb_getf (v := .ref 1) rfl ?_
      refine rb_iload rfl ?_
      apply rb_callV1
      case hb => exact rfl
      case hcl => exact rfl
      case hc =>
        apply ex_X4_textAt
        refine rn_step rfl ?_
        refine rb_iload rfl ?_
        refine rb_push ?_
        refine rb_aload rfl ?_
        refine rb_getf (v := .int 0) rfl ?_
        refine rb_push ?_
        refine rb_binL (z := (-1)) (by decide) ?_
        apply rb_callS3
        case hcl => exact rfl
        case hc =>
          apply ex_X8_within
          refine rn_step rfl ?_
          refine rb_iload rfl ?_
          refine rb_iload rfl ?_
          refine rb_clt (fun h => absurd h (ia_nlt hla (by decide))) (fun _ => ?_)
          refine rb_iload rfl ?_
          refine rb_iload rfl ?_
          refine rb_cgt (fun _ => ?_) (fun h => absurd (ia_gt hla (by decide)) h)
          refine rn_step rfl ?_
          refine rb_push ?_
          refine rb_goto ?_
          refine rn_step rfl ?_
          refine rb_ret rfl rfl
        refine rb_ieq (fun _ => ?_) (fun h => absurd (by decide) h)
        refine rn_step rfl ?_
        refine rb_push ?_
        refine rb_goto ?_
        refine rn_step rfl ?_
        refine rb_ret rfl rfl
      refine rb_astoreN (lv' := [some (.ref 0), some (.int (a)), some (.int (b)), some (.null)]) rfl ?_
      refine rb_aloadN rfl ?_
      refine rb_ifnullN ?_
      refine rn_step rfl ?_
      refine rb_push ?_
      refine rb_ret rfl rfl
    case h2 =>
      apply ex_X9_textTold
      refine rn_step rfl ?_
      refine rb_iload rfl ?_
      refine rb_push ?_
      refine rb_aload rfl ?_
      refine rb_getf (v := .ref 69) rfl ?_
      refine rb_push ?_
      refine rb_iald rfl (by decide) (show _ = some (0) from rfl) ?_
      refine rb_push ?_
      refine rb_binL (z := (-1)) (by decide) ?_
      apply rb_callS3
      case hcl => exact rfl
      case hc =>
        apply ex_X9_in
        refine rn_step rfl ?_
        refine rb_iload rfl ?_
        refine rb_iload rfl ?_
        refine rb_clt (fun h => absurd h (ia_nlt hla (by decide))) (fun _ => ?_)
        refine rb_iload rfl ?_
        refine rb_iload rfl ?_
        refine rb_cgt (fun _ => ?_) (fun h => absurd (ia_gt hla (by decide)) h)
        refine rn_step rfl ?_
        refine rb_push ?_
        refine rb_goto ?_
        refine rn_step rfl ?_
        refine rb_ret rfl rfl
      refine rb_ieq (fun _ => ?_) (fun h => absurd (by decide) h)
      refine rn_step rfl ?_
      refine rb_push ?_
      refine rb_ret rfl rfl
    case h3 => exact s1_ok
    case h4 => exact rfl
set_option maxRecDepth 1000000 in
set_option maxHeartbeats 40000000 in
theorem p1_fine (a : Int32) : P1 99 186 [.int a] := by
  have hla : -2147483648 ≤ a.toInt := ia_lo a
  have hha : a.toInt ≤ 2147483647 := ia_hi a
  rcases ia_cut (c := 0) hla hha with ⟨hla, hha⟩ | ⟨hla, hha⟩
  ·
    apply p1_intro (v := (-1000000001))
    case h1 =>
      apply ex_X8_fine
      refine rn_step rfl ?_
      refine rb_aload rfl ?_
      refine rb_iload rfl ?_
      apply rb_callV1
      case hb => exact rfl
      case hcl => exact rfl
      case hc =>
        apply ex_X8_isStone
        refine rn_step rfl ?_
        refine rb_iload rfl ?_
        refine rb_push ?_
        refine rb_aload rfl ?_
        refine rb_getf (v := .ref 1) rfl ?_
        refine rb_getf (v := .int 0) rfl ?_
        refine rb_push ?_
        refine rb_binL (z := (-1)) (by decide) ?_
        apply rb_callS3
        case hcl => exact rfl
        case hc =>
          apply ex_X8_within
          refine rn_step rfl ?_
          refine rb_iload rfl ?_
          refine rb_iload rfl ?_
          refine rb_clt (fun _ => ?_) (fun h => absurd (ia_lt hha (by decide)) h)
          refine rn_step rfl ?_
          refine rb_push ?_
          refine rb_goto ?_
          refine rn_step rfl ?_
          refine rb_ret rfl rfl
        refine rb_ret rfl rfl
      refine rb_ine (fun h => absurd (by decide) h) (fun _ => ?_)
      refine rb_push ?_
      refine rb_ret rfl rfl
    case h2 =>
      apply ex_X9_fine
      refine rn_step rfl ?_
      refine rb_aload rfl ?_
      refine rb_iload rfl ?_
      apply rb_callV1
      case hb => exact rfl
      case hcl => exact rfl
      case hc =>
        apply ex_X9_isStone
        refine rn_step rfl ?_
        refine rb_iload rfl ?_
        refine rb_push ?_
        refine rb_aload rfl ?_
        refine rb_getf (v := .ref 69) rfl ?_
        refine rb_push ?_
        refine rb_iald rfl (by decide) (show _ = some (0) from rfl) ?_
        refine rb_push ?_
        refine rb_binL (z := (-1)) (by decide) ?_
        apply rb_callS3
        case hcl => exact rfl
        case hc =>
          apply ex_X9_in
          refine rn_step rfl ?_
          refine rb_iload rfl ?_
          refine rb_iload rfl ?_
          refine rb_clt (fun _ => ?_) (fun h => absurd (ia_lt hha (by decide)) h)
          refine rn_step rfl ?_
          refine rb_push ?_
          refine rb_goto ?_
          refine rn_step rfl ?_
          refine rb_ret rfl rfl
        refine rb_ret rfl rfl
      refine rb_ine (fun h => absurd (by decide) h) (fun _ => ?_)
      refine rb_push ?_
      refine rb_ret rfl rfl
    case h3 => exact s1_ok
    case h4 => exact rfl
  ·
    apply p1_intro (v := (-1000000001))
    case h1 =>
      apply ex_X8_fine
      refine rn_step rfl ?_
      refine rb_aload rfl ?_
      refine rb_iload rfl ?_
      apply rb_callV1
      case hb => exact rfl
      case hcl => exact rfl
      case hc =>
        apply ex_X8_isStone
        refine rn_step rfl ?_
        refine rb_iload rfl ?_
        refine rb_push ?_
        refine rb_aload rfl ?_
        refine rb_getf (v := .ref 1) rfl ?_
        refine rb_getf (v := .int 0) rfl ?_
        refine rb_push ?_
        refine rb_binL (z := (-1)) (by decide) ?_
        apply rb_callS3
        case hcl => exact rfl
        case hc =>
          apply ex_X8_within
          refine rn_step rfl ?_
          refine rb_iload rfl ?_
          refine rb_iload rfl ?_
          refine rb_clt (fun h => absurd h (ia_nlt hla (by decide))) (fun _ => ?_)
          refine rb_iload rfl ?_
          refine rb_iload rfl ?_
          refine rb_cgt (fun _ => ?_) (fun h => absurd (ia_gt hla (by decide)) h)
          refine rn_step rfl ?_
          refine rb_push ?_
          refine rb_goto ?_
          refine rn_step rfl ?_
          refine rb_ret rfl rfl
        refine rb_ret rfl rfl
      refine rb_ine (fun h => absurd (by decide) h) (fun _ => ?_)
      refine rb_push ?_
      refine rb_ret rfl rfl
    case h2 =>
      apply ex_X9_fine
      refine rn_step rfl ?_
      refine rb_aload rfl ?_
      refine rb_iload rfl ?_
      apply rb_callV1
      case hb => exact rfl
      case hcl => exact rfl
      case hc =>
        apply ex_X9_isStone
        refine rn_step rfl ?_
        refine rb_iload rfl ?_
        refine rb_push ?_
        refine rb_aload rfl ?_
        refine rb_getf (v := .ref 69) rfl ?_
        refine rb_push ?_
        refine rb_iald rfl (by decide) (show _ = some (0) from rfl) ?_
        refine rb_push ?_
        refine rb_binL (z := (-1)) (by decide) ?_
        apply rb_callS3
        case hcl => exact rfl
        case hc =>
          apply ex_X9_in
          refine rn_step rfl ?_
          refine rb_iload rfl ?_
          refine rb_iload rfl ?_
          refine rb_clt (fun h => absurd h (ia_nlt hla (by decide))) (fun _ => ?_)
          refine rb_iload rfl ?_
          refine rb_iload rfl ?_
          refine rb_cgt (fun _ => ?_) (fun h => absurd (ia_gt hla (by decide)) h)
          refine rn_step rfl ?_
          refine rb_push ?_
          refine rb_goto ?_
          refine rn_step rfl ?_
          refine rb_ret rfl rfl
        refine rb_ret rfl rfl
      refine rb_ine (fun h => absurd (by decide) h) (fun _ => ?_)
      refine rb_push ?_
      refine rb_ret rfl rfl
    case h3 => exact s1_ok
    case h4 => exact rfl
set_option maxRecDepth 1000000 in
set_option maxHeartbeats 40000000 in
theorem p1_seed (a : Int32) : P1 85 156 [.int a] := by
  have hla : -2147483648 ≤ a.toInt := ia_lo a
  have hha : a.toInt ≤ 2147483647 := ia_hi a
  apply p1_intro (v := 1)
  case h1 =>
    apply ex_X8_seed
    refine rn_step rfl ?_
    refine rb_aload rfl ?_
    refine rb_getf (v := .ref 1) rfl ?_
    refine rb_getf (v := .int 1) rfl ?_
    refine rb_istore (lv' := [some (.ref 0), some (.int (a)), some (.int 1)]) rfl ?_
    refine rb_aload rfl ?_
    refine rb_getf (v := .ref 1) rfl ?_
    refine rb_iload rfl ?_
    refine rb_putI (pf_1_14 _ _) ?_
    refine rb_iload rfl ?_
    refine rb_ret rfl rfl
  case h2 =>
    apply ex_X9_seed
    refine rn_step rfl ?_
    refine rb_aload rfl ?_
    refine rb_push ?_
    refine rb_iload rfl ?_
    apply rb_callV2
    case hb => exact rfl
    case hcl => exact rfl
    case hc =>
      apply ex_X9_becomes
      refine rn_step rfl ?_
      refine rb_aload rfl ?_
      refine rb_getf (v := .ref 69) rfl ?_
      refine rb_iload rfl ?_
      refine rb_iald rfl (by decide) (show _ = some (1) from rfl) ?_
      refine rb_istore (lv' := [some (.ref 68), some (.int 0), some (.int (a)), some (.int 1)]) rfl ?_
      refine rb_aload rfl ?_
      refine rb_getf (v := .ref 69) rfl ?_
      refine rb_iload rfl ?_
      refine rb_iload rfl ?_
      refine rb_iast rfl (by decide) (ok_lt (okL.sI s1_ok _ _ _) (c := 69) (n := 1461) (by decide) rfl (by decide) (by decide)) (wa_69 _ _) ?_
      refine rb_iload rfl ?_
      refine rb_ret rfl rfl
    refine rb_ret rfl rfl
  case h3 => exact (okL.sA (okL.sI s1_ok _ _ _) _ (List.length_set ..))
  case h4 => exact rfl
set_option maxRecDepth 1000000 in
set_option maxHeartbeats 40000000 in
theorem p1_tell (a : Int32) : P1 114 217 [.int a] := by
  have hla : -2147483648 ≤ a.toInt := ia_lo a
  have hha : a.toInt ≤ 2147483647 := ia_hi a
  apply p1_intro (v := 1)
  case h1 =>
    apply ex_X8_tell
    refine rn_step rfl ?_
    refine rb_aload rfl ?_
    refine rb_getf (v := .int 0) rfl ?_
    refine rb_push ?_
    refine rb_clt (fun _ => ?_) (fun h => absurd (by decide) h)
    refine rn_step rfl ?_
    refine rb_aload rfl ?_
    refine rb_getf (v := .ref 44) rfl ?_
    refine rb_aload rfl ?_
    refine rb_getf (v := .int 0) rfl ?_
    refine rb_iload rfl ?_
    refine rb_iastL (xs' := [a] ++ List.replicate 59 0) rfl (by decide) (ok_lt s1_ok (c := 44) (n := 60) (by decide) rfl (by decide) (by decide)) rfl (wa_44 _ _) ?_
    refine rb_aload rfl ?_
    refine rb_dupR ?_
    refine rb_getf (v := .int 0) rfl ?_
    refine rb_push ?_
    refine rb_binL (z := 1) (by decide) ?_
    refine rb_putI (pf_0_8 _ _) ?_
    refine rb_aload rfl ?_
    refine rb_getf (v := .int 1) rfl ?_
    refine rb_ret rfl rfl
  case h2 =>
    apply ex_X9_tell
    refine rn_step rfl ?_
    refine rb_aload rfl ?_
    refine rb_getf (v := .int 0) rfl ?_
    refine rb_push ?_
    refine rb_cne (fun _ => ?_) (fun h => absurd (by decide) h)
    refine rn_step rfl ?_
    refine rb_aload rfl ?_
    refine rb_getf (v := .ref 91) rfl ?_
    refine rb_aload rfl ?_
    refine rb_getf (v := .int 0) rfl ?_
    refine rb_iload rfl ?_
    refine rb_iastL (xs' := [a] ++ List.replicate 59 0) rfl (by decide) (ok_lt (okL.sI (okA s1_ok (c := 44) (n := 60) (by decide) rfl (by decide) rfl) _ _ _) (c := 91) (n := 60) (by decide) rfl (by decide) (by decide)) rfl (wa_91 _ _) ?_
    refine rb_aload rfl ?_
    refine rb_dupR ?_
    refine rb_getf (v := .int 0) rfl ?_
    refine rb_push ?_
    refine rb_binL (z := 1) (by decide) ?_
    refine rb_putI (pf_68_35 _ _) ?_
    refine rb_aload rfl ?_
    refine rb_getf (v := .int 1) rfl ?_
    refine rb_ret rfl rfl
  case h3 => exact (okL.sI (okA (okL.sI (okA s1_ok (c := 44) (n := 60) (by decide) rfl (by decide) rfl) _ _ _) (c := 91) (n := 60) (by decide) rfl (by decide) rfl) _ _ _)
  case h4 => exact rfl
set_option maxRecDepth 1000000 in
theorem bx_king_37 : ∀ n0 : Nat, n0 < 4 → ck 87 164 [.int (Int32.ofInt (0 + (n0 : Int)))] = true := by decide +kernel
set_option maxRecDepth 1000000 in
set_option maxHeartbeats 40000000 in
theorem p1_king (a : Int32) : P1 87 164 [.int a] := by
  have hla : -2147483648 ≤ a.toInt := ia_lo a
  have hha : a.toInt ≤ 2147483647 := ia_hi a
  rcases ia_cut (c := 0) hla hha with ⟨hla, hha⟩ | ⟨hla, hha⟩
  ·
    apply p1_intro (v := (-1000000001))
    case h1 =>
      apply ex_X8_king
      refine rn_step rfl ?_
      refine rb_iload rfl ?_
      refine rb_swL (n := 5) (tsw_lo hha (by decide)) ?_
      refine rn_step rfl ?_
      refine rb_push ?_
      refine rb_ret rfl rfl
    case h2 =>
      apply ex_X9_king
      refine rn_step rfl ?_
      refine rb_iload rfl ?_
      refine rb_swL (n := 9) (tsw_lo hha (by decide)) ?_
      refine rn_step rfl ?_
      refine rb_push ?_
      refine rb_ret rfl rfl
    case h3 => exact s1_ok
    case h4 => exact rfl
  ·
    rcases ia_cut (c := 4) hla hha with ⟨hla, hha⟩ | ⟨hla, hha⟩
    ·
      -- box [(0, 3)]
      obtain ⟨n0, hn0, rfl⟩ := ia_box (l := 0) (m := 4) hla hha (by decide) (by decide)
      exact ck_ok (bx_king_37 n0 hn0)
    ·
      apply p1_intro (v := (-1000000001))
      case h1 =>
        apply ex_X8_king
        refine rn_step rfl ?_
        refine rb_iload rfl ?_
        refine rb_swL (n := 5) (tsw_hi hla (by decide)) ?_
        refine rn_step rfl ?_
        refine rb_push ?_
        refine rb_ret rfl rfl
      case h2 =>
        apply ex_X9_king
        refine rn_step rfl ?_
        refine rb_iload rfl ?_
        refine rb_swL (n := 9) (tsw_hi hla (by decide)) ?_
        refine rn_step rfl ?_
        refine rb_push ?_
        refine rb_ret rfl rfl
      case h3 => exact s1_ok
      case h4 => exact rfl
set_option maxRecDepth 1000000 in
theorem bx_count_49 : ∀ n0 : Nat, n0 < 8 → ck 118 221 [.int (Int32.ofInt (0 + (n0 : Int)))] = true := by decide +kernel
set_option maxRecDepth 1000000 in
set_option maxHeartbeats 40000000 in
theorem p1_count (a : Int32) : P1 118 221 [.int a] := by
  have hla : -2147483648 ≤ a.toInt := ia_lo a
  have hha : a.toInt ≤ 2147483647 := ia_hi a
  rcases ia_cut (c := 0) hla hha with ⟨hla, hha⟩ | ⟨hla, hha⟩
  ·
    apply p1_intro (v := (-1000000001))
    case h1 =>
      apply ex_X8_count
      refine rn_step rfl ?_
      refine rb_iload rfl ?_
      refine rb_swL (n := 9) (tsw_lo hha (by decide)) ?_
      refine rn_step rfl ?_
      refine rb_push ?_
      refine rb_ret rfl rfl
    case h2 =>
      apply ex_X9_count
      refine rn_step rfl ?_
      refine rb_iload rfl ?_
      refine rb_swL (n := 9) (tsw_lo hha (by decide)) ?_
      refine rn_step rfl ?_
      refine rb_push ?_
      refine rb_ret rfl rfl
    case h3 => exact s1_ok
    case h4 => exact rfl
  ·
    rcases ia_cut (c := 8) hla hha with ⟨hla, hha⟩ | ⟨hla, hha⟩
    ·
      -- box [(0, 7)]
      obtain ⟨n0, hn0, rfl⟩ := ia_box (l := 0) (m := 8) hla hha (by decide) (by decide)
      exact ck_ok (bx_count_49 n0 hn0)
    ·
      apply p1_intro (v := (-1000000001))
      case h1 =>
        apply ex_X8_count
        refine rn_step rfl ?_
        refine rb_iload rfl ?_
        refine rb_swL (n := 9) (tsw_hi hla (by decide)) ?_
        refine rn_step rfl ?_
        refine rb_push ?_
        refine rb_ret rfl rfl
      case h2 =>
        apply ex_X9_count
        refine rn_step rfl ?_
        refine rb_iload rfl ?_
        refine rb_swL (n := 9) (tsw_hi hla (by decide)) ?_
        refine rn_step rfl ?_
        refine rb_push ?_
        refine rb_ret rfl rfl
      case h3 => exact s1_ok
      case h4 => exact rfl
set_option maxRecDepth 1000000 in
set_option maxHeartbeats 40000000 in
theorem p1_laid : P1 95 180 [] := by
  exact ck_ok (by decide +kernel)
set_option maxRecDepth 1000000 in
set_option maxHeartbeats 40000000 in
theorem p1_swap : P1 91 172 [] := by
  exact ck_ok (by decide +kernel)
set_option maxRecDepth 1000000 in
set_option maxHeartbeats 40000000 in
theorem p1_fee : P1 98 185 [] := by
  exact ck_ok (by decide +kernel)
set_option maxRecDepth 1000000 in
set_option maxHeartbeats 40000000 in
theorem p1_text : P1 102 200 [] := by
  exact ck_ok (by decide +kernel)
set_option maxRecDepth 1000000 in
set_option maxHeartbeats 40000000 in
theorem p1_back : P1 117 220 [] := by
  exact ck_ok (by decide +kernel)
