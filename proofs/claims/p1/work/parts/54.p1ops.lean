set_option maxRecDepth 1000000 in
set_option maxHeartbeats 40000000 in
theorem p1_lost (a b : Int32) : P1 96 181 [.int a, .int b] := by
  have hla : -2147483648 ≤ a.toInt := ia_lo a
  have hha : a.toInt ≤ 2147483647 := ia_hi a
  have hlb : -2147483648 ≤ b.toInt := ia_lo b
  have hhb : b.toInt ≤ 2147483647 := ia_hi b
  rcases ia_cut (c := 0) hla hha with ⟨hla, hha⟩ | ⟨hla, hha⟩
  ·
    apply p1_intro (v := (-1000000001))
    case h1 =>
      apply ex_X8_lost
      refine rn_step rfl ?_
      refine rb_iload rfl ?_
      refine rb_push ?_
      refine rb_push ?_
      apply rb_callS3
      case hcl => exact rfl
      case hc =>
        apply ex_X8_within
        refine rn_step rfl ?_
        refine rb_iload rfl ?_
        refine rb_iload rfl ?_
        refine rb_clt (fun _ => ?_) (fun h => absurd (ia_lt hha (by decide)) h)
        refine rn_step rfl ?_
        refine rb_push ?_
        refine rb_goto ?_
        refine rn_step rfl ?_
        refine rb_ret rfl rfl
      refine rb_ieq (fun _ => ?_) (fun h => absurd (by decide) h)
      refine rn_step rfl ?_
      refine rb_push ?_
      refine rb_ret rfl rfl
    case h2 =>
      apply ex_X9_lost
      refine rn_step rfl ?_
      refine rb_iload rfl ?_
      refine rb_push ?_
      refine rb_push ?_
      apply rb_callS3
      case hcl => exact rfl
      case hc =>
        apply ex_X9_in
        refine rn_step rfl ?_
        refine rb_iload rfl ?_
        refine rb_iload rfl ?_
        refine rb_clt (fun _ => ?_) (fun h => absurd (ia_lt hha (by decide)) h)
        refine rn_step rfl ?_
        refine rb_push ?_
        refine rb_goto ?_
        refine rn_step rfl ?_
        refine rb_ret rfl rfl
      refine rb_ieq (fun _ => ?_) (fun h => absurd (by decide) h)
      refine rn_step rfl ?_
      refine rb_push ?_
      refine rb_ret rfl rfl
    case h3 => exact s1_ok
    case h4 => exact rfl
  ·
    rcases ia_cut (c := 61) hla hha with ⟨hla, hha⟩ | ⟨hla, hha⟩
    ·
      rcases ia_cut (c := 0) hlb hhb with ⟨hlb, hhb⟩ | ⟨hlb, hhb⟩
      ·
        apply p1_intro (v := (-1000000001))
        case h1 =>
          apply ex_X8_lost
          refine rn_step rfl ?_
          refine rb_iload rfl ?_
          refine rb_push ?_
          refine rb_push ?_
          apply rb_callS3
          case hcl => exact rfl
          case hc =>
            apply ex_X8_within
            refine rn_step rfl ?_
            refine rb_iload rfl ?_
            refine rb_iload rfl ?_
            refine rb_clt (fun h => absurd h (ia_nlt hla (by decide))) (fun _ => ?_)
            refine rb_iload rfl ?_
            refine rb_iload rfl ?_
            refine rb_cgt (fun h => absurd h (ia_ngt hha (by decide))) (fun _ => ?_)
            refine rb_push ?_
            refine rb_goto ?_
            refine rn_step rfl ?_
            refine rb_ret rfl rfl
          refine rb_ieq (fun h => absurd h (by decide)) (fun _ => ?_)
          refine rb_iload rfl ?_
          refine rb_push ?_
          refine rb_push ?_
          apply rb_callS3
          case hcl => exact rfl
          case hc =>
            apply ex_X8_within
            refine rn_step rfl ?_
            refine rb_iload rfl ?_
            refine rb_iload rfl ?_
            refine rb_clt (fun _ => ?_) (fun h => absurd (ia_lt hhb (by decide)) h)
            refine rn_step rfl ?_
            refine rb_push ?_
            refine rb_goto ?_
            refine rn_step rfl ?_
            refine rb_ret rfl rfl
          refine rb_ine (fun h => absurd (by decide) h) (fun _ => ?_)
          refine rb_goto ?_
          refine rn_step rfl ?_
          refine rb_push ?_
          refine rb_ret rfl rfl
        case h2 =>
          apply ex_X9_lost
          refine rn_step rfl ?_
          refine rb_iload rfl ?_
          refine rb_push ?_
          refine rb_push ?_
          apply rb_callS3
          case hcl => exact rfl
          case hc =>
            apply ex_X9_in
            refine rn_step rfl ?_
            refine rb_iload rfl ?_
            refine rb_iload rfl ?_
            refine rb_clt (fun h => absurd h (ia_nlt hla (by decide))) (fun _ => ?_)
            refine rb_iload rfl ?_
            refine rb_iload rfl ?_
            refine rb_cgt (fun h => absurd h (ia_ngt hha (by decide))) (fun _ => ?_)
            refine rb_push ?_
            refine rb_goto ?_
            refine rn_step rfl ?_
            refine rb_ret rfl rfl
          refine rb_ieq (fun h => absurd h (by decide)) (fun _ => ?_)
          refine rb_iload rfl ?_
          refine rb_push ?_
          refine rb_push ?_
          apply rb_callS3
          case hcl => exact rfl
          case hc =>
            apply ex_X9_in
            refine rn_step rfl ?_
            refine rb_iload rfl ?_
            refine rb_iload rfl ?_
            refine rb_clt (fun _ => ?_) (fun h => absurd (ia_lt hhb (by decide)) h)
            refine rn_step rfl ?_
            refine rb_push ?_
            refine rb_goto ?_
            refine rn_step rfl ?_
            refine rb_ret rfl rfl
          refine rb_ine (fun h => absurd (by decide) h) (fun _ => ?_)
          refine rb_goto ?_
          refine rn_step rfl ?_
          refine rb_push ?_
          refine rb_ret rfl rfl
        case h3 => exact s1_ok
        case h4 => exact rfl
      ·
        rcases ia_cut (c := 2) hlb hhb with ⟨hlb, hhb⟩ | ⟨hlb, hhb⟩
        ·
          rcases ia_cut (c := 1) hlb hhb with ⟨hlb, hhb⟩ | ⟨hlb, hhb⟩
          ·
            obtain rfl : b = 0 := ia_one hlb hhb (by decide) (by decide)
            apply p1_intro (v := (-1000000005))
            case h1 =>
              apply ex_X8_lost
              refine rn_step rfl ?_
              refine rb_iload rfl ?_
              refine rb_push ?_
              refine rb_push ?_
              apply rb_callS3
              case hcl => exact rfl
              case hc =>
                apply ex_X8_within
                refine rn_step rfl ?_
                refine rb_iload rfl ?_
                refine rb_iload rfl ?_
                refine rb_clt (fun h => absurd h (ia_nlt hla (by decide))) (fun _ => ?_)
                refine rb_iload rfl ?_
                refine rb_iload rfl ?_
                refine rb_cgt (fun h => absurd h (ia_ngt hha (by decide))) (fun _ => ?_)
                refine rb_push ?_
                refine rb_goto ?_
                refine rn_step rfl ?_
                refine rb_ret rfl rfl
              refine rb_ieq (fun h => absurd h (by decide)) (fun _ => ?_)
              refine rb_iload rfl ?_
              refine rb_push ?_
              refine rb_push ?_
              apply rb_callS3
              case hcl => exact rfl
              case hc =>
                apply ex_X8_within
                refine rn_step rfl ?_
                refine rb_iload rfl ?_
                refine rb_iload rfl ?_
                refine rb_clt (fun h => absurd h (by decide)) (fun _ => ?_)
                refine rb_iload rfl ?_
                refine rb_iload rfl ?_
                refine rb_cgt (fun h => absurd h (by decide)) (fun _ => ?_)
                refine rb_push ?_
                refine rb_goto ?_
                refine rn_step rfl ?_
                refine rb_ret rfl rfl
              refine rb_ine (fun _ => ?_) (fun h => absurd (by decide) h)
              refine rn_step rfl ?_
              refine rb_push ?_
              refine rb_istore (lv' := [some (.ref 0), some (.int (a)), some (.int 0), some (.int (-1000000005)), none, none, none]) rfl ?_
              refine rb_push ?_
              refine rb_istore (lv' := [some (.ref 0), some (.int (a)), some (.int 0), some (.int (-1000000005)), some (.int (-1000000005)), none, none]) rfl ?_
              refine rb_push ?_
              refine rb_istore (lv' := [some (.ref 0), some (.int (a)), some (.int 0), some (.int (-1000000005)), some (.int (-1000000005)), some (.int 0), none]) rfl ?_
              refine rb_goto ?_
              refine rn_step rfl ?_
              refine rb_iload rfl ?_
              refine rb_aload rfl ?_
              refine rb_getf (v := .ref 1) rfl ?_
              refine rb_getf (v := .int 0) rfl ?_
              refine rb_cge (fun _ => ?_) (fun h => absurd (by decide) h)
              refine rn_step rfl ?_
              refine rb_iload rfl ?_
              refine rb_ine (fun h => absurd (by decide) h) (fun _ => ?_)
              refine rb_iload rfl ?_
              refine rb_goto ?_
              refine rn_step rfl ?_
              refine rb_ret rfl rfl
            case h2 =>
              apply ex_X9_lost
              refine rn_step rfl ?_
              refine rb_iload rfl ?_
              refine rb_push ?_
              refine rb_push ?_
              apply rb_callS3
              case hcl => exact rfl
              case hc =>
                apply ex_X9_in
                refine rn_step rfl ?_
                refine rb_iload rfl ?_
                refine rb_iload rfl ?_
                refine rb_clt (fun h => absurd h (ia_nlt hla (by decide))) (fun _ => ?_)
                refine rb_iload rfl ?_
                refine rb_iload rfl ?_
                refine rb_cgt (fun h => absurd h (ia_ngt hha (by decide))) (fun _ => ?_)
                refine rb_push ?_
                refine rb_goto ?_
                refine rn_step rfl ?_
                refine rb_ret rfl rfl
              refine rb_ieq (fun h => absurd h (by decide)) (fun _ => ?_)
              refine rb_iload rfl ?_
              refine rb_push ?_
              refine rb_push ?_
              apply rb_callS3
              case hcl => exact rfl
              case hc =>
                apply ex_X9_in
                refine rn_step rfl ?_
                refine rb_iload rfl ?_
                refine rb_iload rfl ?_
                refine rb_clt (fun h => absurd h (by decide)) (fun _ => ?_)
                refine rb_iload rfl ?_
                refine rb_iload rfl ?_
                refine rb_cgt (fun h => absurd h (by decide)) (fun _ => ?_)
                refine rb_push ?_
                refine rb_goto ?_
                refine rn_step rfl ?_
                refine rb_ret rfl rfl
              refine rb_ine (fun _ => ?_) (fun h => absurd (by decide) h)
              refine rn_step rfl ?_
              refine rb_aload rfl ?_
              apply rb_callV0v
              case hb => exact rfl
              case hcl => exact rfl
              case hc =>
                apply ex_X9_thinks
                refine rn_step rfl ?_
                refine rb_push ?_
                refine rb_istore (lv' := [some (.ref 68), some (.int 0)]) rfl ?_
                refine rb_goto ?_
                refine rn_step rfl ?_
                refine rb_iload rfl ?_
                refine rb_push ?_
                refine rb_cge (fun h => absurd h (by decide)) (fun _ => ?_)
                refine rb_aload rfl ?_
                refine rb_getf (v := .ref 74) rfl ?_
                refine rb_iload rfl ?_
                refine rb_aload rfl ?_
                refine rb_getf (v := .ref 69) rfl ?_
                refine rb_iload rfl ?_
                refine rb_iald rfl (by decide) (show _ = some (1) from rfl) ?_
                refine rb_iast rfl (by decide) (ok_lt s1_ok (c := 74) (n := 89) (by decide) rfl (by decide) (by decide)) (wa_74 _ _) ?_
                refine rb_iinc (lv' := [some (.ref 68), some (.int 1)]) rfl rfl ?_
                refine rb_goto ?_
                refine rn_step rfl ?_
                refine rb_iload rfl ?_
                refine rb_push ?_
                refine rb_cge (fun h => absurd h (by decide)) (fun _ => ?_)
                refine rb_aload rfl ?_
                refine rb_getf (v := .ref 74) rfl ?_
                refine rb_iload rfl ?_
                refine rb_aload rfl ?_
                refine rb_getf (v := .ref 69) rfl ?_
                refine rb_iload rfl ?_
                refine rb_iald rfl (by decide) (show _ = some (0) from rfl) ?_
                refine rb_iast rfl (by decide) (ok_lt (okL.sA s1_ok _ (List.length_set ..)) (c := 74) (n := 89) (by decide) rfl (by decide) (by decide)) (wa_74 _ _) ?_
                refine rb_iinc (lv' := [some (.ref 68), some (.int 2)]) rfl rfl ?_
                refine rb_goto ?_
                refine rn_step rfl ?_
                refine rb_iload rfl ?_
                refine rb_push ?_
                refine rb_cge (fun h => absurd h (by decide)) (fun _ => ?_)
                refine rb_aload rfl ?_
                refine rb_getf (v := .ref 74) rfl ?_
                refine rb_iload rfl ?_
                refine rb_aload rfl ?_
                refine rb_getf (v := .ref 69) rfl ?_
                refine rb_iload rfl ?_
                refine rb_iald rfl (by decide) (show _ = some (0) from rfl) ?_
                refine rb_iast rfl (by decide) (ok_lt (okL.sA (okL.sA s1_ok _ (List.length_set ..)) _ (List.length_set ..)) (c := 74) (n := 89) (by decide) rfl (by decide) (by decide)) (wa_74 _ _) ?_
                refine rb_iinc (lv' := [some (.ref 68), some (.int 3)]) rfl rfl ?_
                refine rb_goto ?_
                refine rn_step rfl ?_
                refine rb_iload rfl ?_
                refine rb_push ?_
                refine rb_cge (fun h => absurd h (by decide)) (fun _ => ?_)
                refine rb_aload rfl ?_
                refine rb_getf (v := .ref 74) rfl ?_
                refine rb_iload rfl ?_
                refine rb_aload rfl ?_
                refine rb_getf (v := .ref 69) rfl ?_
                refine rb_iload rfl ?_
                refine rb_iald rfl (by decide) (show _ = some (0) from rfl) ?_
                refine rb_iast rfl (by decide) (ok_lt (okL.sA (okL.sA (okL.sA s1_ok _ (List.length_set ..)) _ (List.length_set ..)) _ (List.length_set ..)) (c := 74) (n := 89) (by decide) rfl (by decide) (by decide)) (wa_74 _ _) ?_
                refine rb_iinc (lv' := [some (.ref 68), some (.int 4)]) rfl rfl ?_
                refine rb_goto ?_
                refine rn_step rfl ?_
                refine rb_iload rfl ?_
                refine rb_push ?_
                refine rb_cge (fun h => absurd h (by decide)) (fun _ => ?_)
                refine rb_aload rfl ?_
                refine rb_getf (v := .ref 74) rfl ?_
                refine rb_iload rfl ?_
                refine rb_aload rfl ?_
                refine rb_getf (v := .ref 69) rfl ?_
                refine rb_iload rfl ?_
                refine rb_iald rfl (by decide) (show _ = some (0) from rfl) ?_
                refine rb_iast rfl (by decide) (ok_lt (okL.sA (okL.sA (okL.sA (okL.sA s1_ok _ (List.length_set ..)) _ (List.length_set ..)) _ (List.length_set ..)) _ (List.length_set ..)) (c := 74) (n := 89) (by decide) rfl (by decide) (by decide)) (wa_74 _ _) ?_
                refine rb_iinc (lv' := [some (.ref 68), some (.int 5)]) rfl rfl ?_
                refine rb_goto ?_
                refine rn_step rfl ?_
                refine rb_iload rfl ?_
                refine rb_push ?_
                refine rb_cge (fun h => absurd h (by decide)) (fun _ => ?_)
                refine rb_aload rfl ?_
                refine rb_getf (v := .ref 74) rfl ?_
                refine rb_iload rfl ?_
                refine rb_aload rfl ?_
                refine rb_getf (v := .ref 69) rfl ?_
                refine rb_iload rfl ?_
                refine rb_iald rfl (by decide) (show _ = some (50) from rfl) ?_
                refine rb_iast rfl (by decide) (ok_lt (okL.sA (okL.sA (okL.sA (okL.sA (okL.sA s1_ok _ (List.length_set ..)) _ (List.length_set ..)) _ (List.length_set ..)) _ (List.length_set ..)) _ (List.length_set ..)) (c := 74) (n := 89) (by decide) rfl (by decide) (by decide)) (wa_74 _ _) ?_
                refine rb_iinc (lv' := [some (.ref 68), some (.int 6)]) rfl rfl ?_
                refine rb_goto ?_
                refine rn_step rfl ?_
                refine rb_iload rfl ?_
                refine rb_push ?_
                refine rb_cge (fun h => absurd h (by decide)) (fun _ => ?_)
                refine rb_aload rfl ?_
                refine rb_getf (v := .ref 74) rfl ?_
                refine rb_iload rfl ?_
                refine rb_aload rfl ?_
                refine rb_getf (v := .ref 69) rfl ?_
                refine rb_iload rfl ?_
                refine rb_iald rfl (by decide) (show _ = some (50) from rfl) ?_
                refine rb_iast rfl (by decide) (ok_lt (okL.sA (okL.sA (okL.sA (okL.sA (okL.sA (okL.sA s1_ok _ (List.length_set ..)) _ (List.length_set ..)) _ (List.length_set ..)) _ (List.length_set ..)) _ (List.length_set ..)) _ (List.length_set ..)) (c := 74) (n := 89) (by decide) rfl (by decide) (by decide)) (wa_74 _ _) ?_
                refine rb_iinc (lv' := [some (.ref 68), some (.int 7)]) rfl rfl ?_
                refine rb_goto ?_
                refine rn_step rfl ?_
                refine rb_iload rfl ?_
                refine rb_push ?_
                refine rb_cge (fun h => absurd h (by decide)) (fun _ => ?_)
                refine rb_aload rfl ?_
                refine rb_getf (v := .ref 74) rfl ?_
                refine rb_iload rfl ?_
                refine rb_aload rfl ?_
                refine rb_getf (v := .ref 69) rfl ?_
                refine rb_iload rfl ?_
                refine rb_iald rfl (by decide) (show _ = some (50) from rfl) ?_
                refine rb_iast rfl (by decide) (ok_lt (okL.sA (okL.sA (okL.sA (okL.sA (okL.sA (okL.sA (okL.sA s1_ok _ (List.length_set ..)) _ (List.length_set ..)) _ (List.length_set ..)) _ (List.length_set ..)) _ (List.length_set ..)) _ (List.length_set ..)) _ (List.length_set ..)) (c := 74) (n := 89) (by decide) rfl (by decide) (by decide)) (wa_74 _ _) ?_
                refine rb_iinc (lv' := [some (.ref 68), some (.int 8)]) rfl rfl ?_
                refine rb_goto ?_
                refine rn_step rfl ?_
                refine rb_iload rfl ?_
                refine rb_push ?_
                refine rb_cge (fun h => absurd h (by decide)) (fun _ => ?_)
                refine rb_aload rfl ?_
                refine rb_getf (v := .ref 74) rfl ?_
                refine rb_iload rfl ?_
                refine rb_aload rfl ?_
                refine rb_getf (v := .ref 69) rfl ?_
                refine rb_iload rfl ?_
                refine rb_iald rfl (by decide) (show _ = some (50) from rfl) ?_
                refine rb_iast rfl (by decide) (ok_lt (okL.sA (okL.sA (okL.sA (okL.sA (okL.sA (okL.sA (okL.sA (okL.sA s1_ok _ (List.length_set ..)) _ (List.length_set ..)) _ (List.length_set ..)) _ (List.length_set ..)) _ (List.length_set ..)) _ (List.length_set ..)) _ (List.length_set ..)) _ (List.length_set ..)) (c := 74) (n := 89) (by decide) rfl (by decide) (by decide)) (wa_74 _ _) ?_
                refine rb_iinc (lv' := [some (.ref 68), some (.int 9)]) rfl rfl ?_
                refine rb_goto ?_
                refine rn_step rfl ?_
                refine rb_iload rfl ?_
                refine rb_push ?_
                refine rb_cge (fun h => absurd h (by decide)) (fun _ => ?_)
                refine rb_aload rfl ?_
                refine rb_getf (v := .ref 74) rfl ?_
                refine rb_iload rfl ?_
                refine rb_aload rfl ?_
                refine rb_getf (v := .ref 69) rfl ?_
                refine rb_iload rfl ?_
                refine rb_iald rfl (by decide) (show _ = some (50) from rfl) ?_
                refine rb_iast rfl (by decide) (ok_lt (okL.sA (okL.sA (okL.sA (okL.sA (okL.sA (okL.sA (okL.sA (okL.sA (okL.sA s1_ok _ (List.length_set ..)) _ (List.length_set ..)) _ (List.length_set ..)) _ (List.length_set ..)) _ (List.length_set ..)) _ (List.length_set ..)) _ (List.length_set ..)) _ (List.length_set ..)) _ (List.length_set ..)) (c := 74) (n := 89) (by decide) rfl (by decide) (by decide)) (wa_74 _ _) ?_
                refine rb_iinc (lv' := [some (.ref 68), some (.int 10)]) rfl rfl ?_
                refine rb_goto ?_
                refine rn_step rfl ?_
                refine rb_iload rfl ?_
                refine rb_push ?_
                refine rb_cge (fun h => absurd h (by decide)) (fun _ => ?_)
                refine rb_aload rfl ?_
                refine rb_getf (v := .ref 74) rfl ?_
                refine rb_iload rfl ?_
                refine rb_aload rfl ?_
                refine rb_getf (v := .ref 69) rfl ?_
                refine rb_iload rfl ?_
                refine rb_iald rfl (by decide) (show _ = some (50) from rfl) ?_
                refine rb_iast rfl (by decide) (ok_lt (okL.sA (okL.sA (okL.sA (okL.sA (okL.sA (okL.sA (okL.sA (okL.sA (okL.sA (okL.sA s1_ok _ (List.length_set ..)) _ (List.length_set ..)) _ (List.length_set ..)) _ (List.length_set ..)) _ (List.length_set ..)) _ (List.length_set ..)) _ (List.length_set ..)) _ (List.length_set ..)) _ (List.length_set ..)) _ (List.length_set ..)) (c := 74) (n := 89) (by decide) rfl (by decide) (by decide)) (wa_74 _ _) ?_
                refine rb_iinc (lv' := [some (.ref 68), some (.int 11)]) rfl rfl ?_
                refine rb_goto ?_
                refine rn_step rfl ?_
                refine rb_iload rfl ?_
                refine rb_push ?_
                refine rb_cge (fun h => absurd h (by decide)) (fun _ => ?_)
                refine rb_aload rfl ?_
                refine rb_getf (v := .ref 74) rfl ?_
                refine rb_iload rfl ?_
                refine rb_aload rfl ?_
                refine rb_getf (v := .ref 69) rfl ?_
                refine rb_iload rfl ?_
                refine rb_iald rfl (by decide) (show _ = some (50) from rfl) ?_
                refine rb_iast rfl (by decide) (ok_lt (okL.sA (okL.sA (okL.sA (okL.sA (okL.sA (okL.sA (okL.sA (okL.sA (okL.sA (okL.sA (okL.sA s1_ok _ (List.length_set ..)) _ (List.length_set ..)) _ (List.length_set ..)) _ (List.length_set ..)) _ (List.length_set ..)) _ (List.length_set ..)) _ (List.length_set ..)) _ (List.length_set ..)) _ (List.length_set ..)) _ (List.length_set ..)) _ (List.length_set ..)) (c := 74) (n := 89) (by decide) rfl (by decide) (by decide)) (wa_74 _ _) ?_
                refine rb_iinc (lv' := [some (.ref 68), some (.int 12)]) rfl rfl ?_
                refine rb_goto ?_
                refine rn_step rfl ?_
                refine rb_iload rfl ?_
                refine rb_push ?_
                refine rb_cge (fun h => absurd h (by decide)) (fun _ => ?_)
                refine rb_aload rfl ?_
                refine rb_getf (v := .ref 74) rfl ?_
                refine rb_iload rfl ?_
                refine rb_aload rfl ?_
                refine rb_getf (v := .ref 69) rfl ?_
                refine rb_iload rfl ?_
                refine rb_iald rfl (by decide) (show _ = some (50) from rfl) ?_
                refine rb_iast rfl (by decide) (ok_lt (okL.sA (okL.sA (okL.sA (okL.sA (okL.sA (okL.sA (okL.sA (okL.sA (okL.sA (okL.sA (okL.sA (okL.sA s1_ok _ (List.length_set ..)) _ (List.length_set ..)) _ (List.length_set ..)) _ (List.length_set ..)) _ (List.length_set ..)) _ (List.length_set ..)) _ (List.length_set ..)) _ (List.length_set ..)) _ (List.length_set ..)) _ (List.length_set ..)) _ (List.length_set ..)) _ (List.length_set ..)) (c := 74) (n := 89) (by decide) rfl (by decide) (by decide)) (wa_74 _ _) ?_
                refine rb_iinc (lv' := [some (.ref 68), some (.int 13)]) rfl rfl ?_
                refine rb_goto ?_
                refine rn_step rfl ?_
                refine rb_iload rfl ?_
                refine rb_push ?_
                refine rb_cge (fun h => absurd h (by decide)) (fun _ => ?_)
                refine rb_aload rfl ?_
                refine rb_getf (v := .ref 74) rfl ?_
                refine rb_iload rfl ?_
                refine rb_aload rfl ?_
                refine rb_getf (v := .ref 69) rfl ?_
                refine rb_iload rfl ?_
                refine rb_iald rfl (by decide) (show _ = some (50) from rfl) ?_
                refine rb_iast rfl (by decide) (ok_lt (okL.sA (okL.sA (okL.sA (okL.sA (okL.sA (okL.sA (okL.sA (okL.sA (okL.sA (okL.sA (okL.sA (okL.sA (okL.sA s1_ok _ (List.length_set ..)) _ (List.length_set ..)) _ (List.length_set ..)) _ (List.length_set ..)) _ (List.length_set ..)) _ (List.length_set ..)) _ (List.length_set ..)) _ (List.length_set ..)) _ (List.length_set ..)) _ (List.length_set ..)) _ (List.length_set ..)) _ (List.length_set ..)) _ (List.length_set ..)) (c := 74) (n := 89) (by decide) rfl (by decide) (by decide)) (wa_74 _ _) ?_
                refine rb_iinc (lv' := [some (.ref 68), some (.int 14)]) rfl rfl ?_
                refine rb_goto ?_
                refine rn_step rfl ?_
                refine rb_iload rfl ?_
                refine rb_push ?_
                refine rb_cge (fun h => absurd h (by decide)) (fun _ => ?_)
                refine rb_aload rfl ?_
                refine rb_getf (v := .ref 74) rfl ?_
                refine rb_iload rfl ?_
                refine rb_aload rfl ?_
                refine rb_getf (v := .ref 69) rfl ?_
                refine rb_iload rfl ?_
                refine rb_iald rfl (by decide) (show _ = some (50) from rfl) ?_
                refine rb_iast rfl (by decide) (ok_lt (okL.sA (okL.sA (okL.sA (okL.sA (okL.sA (okL.sA (okL.sA (okL.sA (okL.sA (okL.sA (okL.sA (okL.sA (okL.sA (okL.sA s1_ok _ (List.length_set ..)) _ (List.length_set ..)) _ (List.length_set ..)) _ (List.length_set ..)) _ (List.length_set ..)) _ (List.length_set ..)) _ (List.length_set ..)) _ (List.length_set ..)) _ (List.length_set ..)) _ (List.length_set ..)) _ (List.length_set ..)) _ (List.length_set ..)) _ (List.length_set ..)) _ (List.length_set ..)) (c := 74) (n := 89) (by decide) rfl (by decide) (by decide)) (wa_74 _ _) ?_
                refine rb_iinc (lv' := [some (.ref 68), some (.int 15)]) rfl rfl ?_
                refine rb_goto ?_
                refine rn_step rfl ?_
                refine rb_iload rfl ?_
                refine rb_push ?_
                refine rb_cge (fun h => absurd h (by decide)) (fun _ => ?_)
                refine rb_aload rfl ?_
                refine rb_getf (v := .ref 74) rfl ?_
                refine rb_iload rfl ?_
                refine rb_aload rfl ?_
                refine rb_getf (v := .ref 69) rfl ?_
                refine rb_iload rfl ?_
                refine rb_iald rfl (by decide) (show _ = some (50) from rfl) ?_
                refine rb_iast rfl (by decide) (ok_lt (okL.sA (okL.sA (okL.sA (okL.sA (okL.sA (okL.sA (okL.sA (okL.sA (okL.sA (okL.sA (okL.sA (okL.sA (okL.sA (okL.sA (okL.sA s1_ok _ (List.length_set ..)) _ (List.length_set ..)) _ (List.length_set ..)) _ (List.length_set ..)) _ (List.length_set ..)) _ (List.length_set ..)) _ (List.length_set ..)) _ (List.length_set ..)) _ (List.length_set ..)) _ (List.length_set ..)) _ (List.length_set ..)) _ (List.length_set ..)) _ (List.length_set ..)) _ (List.length_set ..)) _ (List.length_set ..)) (c := 74) (n := 89) (by decide) rfl (by decide) (by decide)) (wa_74 _ _) ?_
                refine rb_iinc (lv' := [some (.ref 68), some (.int 16)]) rfl rfl ?_
                refine rb_goto ?_
                refine rn_step rfl ?_
                refine rb_iload rfl ?_
                refine rb_push ?_
                refine rb_cge (fun h => absurd h (by decide)) (fun _ => ?_)
                refine rb_aload rfl ?_
                refine rb_getf (v := .ref 74) rfl ?_
                refine rb_iload rfl ?_
                refine rb_aload rfl ?_
                refine rb_getf (v := .ref 69) rfl ?_
                refine rb_iload rfl ?_
                refine rb_iald rfl (by decide) (show _ = some (50) from rfl) ?_
                refine rb_iast rfl (by decide) (ok_lt (okL.sA (okL.sA (okL.sA (okL.sA (okL.sA (okL.sA (okL.sA (okL.sA (okL.sA (okL.sA (okL.sA (okL.sA (okL.sA (okL.sA (okL.sA (okL.sA s1_ok _ (List.length_set ..)) _ (List.length_set ..)) _ (List.length_set ..)) _ (List.length_set ..)) _ (List.length_set ..)) _ (List.length_set ..)) _ (List.length_set ..)) _ (List.length_set ..)) _ (List.length_set ..)) _ (List.length_set ..)) _ (List.length_set ..)) _ (List.length_set ..)) _ (List.length_set ..)) _ (List.length_set ..)) _ (List.length_set ..)) _ (List.length_set ..)) (c := 74) (n := 89) (by decide) rfl (by decide) (by decide)) (wa_74 _ _) ?_
                refine rb_iinc (lv' := [some (.ref 68), some (.int 17)]) rfl rfl ?_
                refine rb_goto ?_
                refine rn_step rfl ?_
                refine rb_iload rfl ?_
                refine rb_push ?_
                refine rb_cge (fun h => absurd h (by decide)) (fun _ => ?_)
                refine rb_aload rfl ?_
                refine rb_getf (v := .ref 74) rfl ?_
                refine rb_iload rfl ?_
                refine rb_aload rfl ?_
                refine rb_getf (v := .ref 69) rfl ?_
                refine rb_iload rfl ?_
                refine rb_iald rfl (by decide) (show _ = some (50) from rfl) ?_
                refine rb_iast rfl (by decide) (ok_lt (okL.sA (okL.sA (okL.sA (okL.sA (okL.sA (okL.sA (okL.sA (okL.sA (okL.sA (okL.sA (okL.sA (okL.sA (okL.sA (okL.sA (okL.sA (okL.sA (okL.sA s1_ok _ (List.length_set ..)) _ (List.length_set ..)) _ (List.length_set ..)) _ (List.length_set ..)) _ (List.length_set ..)) _ (List.length_set ..)) _ (List.length_set ..)) _ (List.length_set ..)) _ (List.length_set ..)) _ (List.length_set ..)) _ (List.length_set ..)) _ (List.length_set ..)) _ (List.length_set ..)) _ (List.length_set ..)) _ (List.length_set ..)) _ (List.length_set ..)) _ (List.length_set ..)) (c := 74) (n := 89) (by decide) rfl (by decide) (by decide)) (wa_74 _ _) ?_
                refine rb_iinc (lv' := [some (.ref 68), some (.int 18)]) rfl rfl ?_
                refine rb_goto ?_
                refine rn_step rfl ?_
                refine rb_iload rfl ?_
                refine rb_push ?_
                refine rb_cge (fun h => absurd h (by decide)) (fun _ => ?_)
                refine rb_aload rfl ?_
                refine rb_getf (v := .ref 74) rfl ?_
                refine rb_iload rfl ?_
                refine rb_aload rfl ?_
                refine rb_getf (v := .ref 69) rfl ?_
                refine rb_iload rfl ?_
                refine rb_iald rfl (by decide) (show _ = some (50) from rfl) ?_
                refine rb_iast rfl (by decide) (ok_lt (okL.sA (okL.sA (okL.sA (okL.sA (okL.sA (okL.sA (okL.sA (okL.sA (okL.sA (okL.sA (okL.sA (okL.sA (okL.sA (okL.sA (okL.sA (okL.sA (okL.sA (okL.sA s1_ok _ (List.length_set ..)) _ (List.length_set ..)) _ (List.length_set ..)) _ (List.length_set ..)) _ (List.length_set ..)) _ (List.length_set ..)) _ (List.length_set ..)) _ (List.length_set ..)) _ (List.length_set ..)) _ (List.length_set ..)) _ (List.length_set ..)) _ (List.length_set ..)) _ (List.length_set ..)) _ (List.length_set ..)) _ (List.length_set ..)) _ (List.length_set ..)) _ (List.length_set ..)) _ (List.length_set ..)) (c := 74) (n := 89) (by decide) rfl (by decide) (by decide)) (wa_74 _ _) ?_
                refine rb_iinc (lv' := [some (.ref 68), some (.int 19)]) rfl rfl ?_
                refine rb_goto ?_
                refine rn_step rfl ?_
                refine rb_iload rfl ?_
                refine rb_push ?_
                refine rb_cge (fun h => absurd h (by decide)) (fun _ => ?_)
                refine rb_aload rfl ?_
                refine rb_getf (v := .ref 74) rfl ?_
                refine rb_iload rfl ?_
                refine rb_aload rfl ?_
                refine rb_getf (v := .ref 69) rfl ?_
                refine rb_iload rfl ?_
                refine rb_iald rfl (by decide) (show _ = some (50) from rfl) ?_
                refine rb_iast rfl (by decide) (ok_lt (okL.sA (okL.sA (okL.sA (okL.sA (okL.sA (okL.sA (okL.sA (okL.sA (okL.sA (okL.sA (okL.sA (okL.sA (okL.sA (okL.sA (okL.sA (okL.sA (okL.sA (okL.sA (okL.sA s1_ok _ (List.length_set ..)) _ (List.length_set ..)) _ (List.length_set ..)) _ (List.length_set ..)) _ (List.length_set ..)) _ (List.length_set ..)) _ (List.length_set ..)) _ (List.length_set ..)) _ (List.length_set ..)) _ (List.length_set ..)) _ (List.length_set ..)) _ (List.length_set ..)) _ (List.length_set ..)) _ (List.length_set ..)) _ (List.length_set ..)) _ (List.length_set ..)) _ (List.length_set ..)) _ (List.length_set ..)) _ (List.length_set ..)) (c := 74) (n := 89) (by decide) rfl (by decide) (by decide)) (wa_74 _ _) ?_
                refine rb_iinc (lv' := [some (.ref 68), some (.int 20)]) rfl rfl ?_
                refine rb_goto ?_
                refine rn_step rfl ?_
                refine rb_iload rfl ?_
                refine rb_push ?_
                refine rb_cge (fun h => absurd h (by decide)) (fun _ => ?_)
                refine rb_aload rfl ?_
                refine rb_getf (v := .ref 74) rfl ?_
                refine rb_iload rfl ?_
                refine rb_aload rfl ?_
                refine rb_getf (v := .ref 69) rfl ?_
                refine rb_iload rfl ?_
                refine rb_iald rfl (by decide) (show _ = some (50) from rfl) ?_
                refine rb_iast rfl (by decide) (ok_lt (okL.sA (okL.sA (okL.sA (okL.sA (okL.sA (okL.sA (okL.sA (okL.sA (okL.sA (okL.sA (okL.sA (okL.sA (okL.sA (okL.sA (okL.sA (okL.sA (okL.sA (okL.sA (okL.sA (okL.sA s1_ok _ (List.length_set ..)) _ (List.length_set ..)) _ (List.length_set ..)) _ (List.length_set ..)) _ (List.length_set ..)) _ (List.length_set ..)) _ (List.length_set ..)) _ (List.length_set ..)) _ (List.length_set ..)) _ (List.length_set ..)) _ (List.length_set ..)) _ (List.length_set ..)) _ (List.length_set ..)) _ (List.length_set ..)) _ (List.length_set ..)) _ (List.length_set ..)) _ (List.length_set ..)) _ (List.length_set ..)) _ (List.length_set ..)) _ (List.length_set ..)) (c := 74) (n := 89) (by decide) rfl (by decide) (by decide)) (wa_74 _ _) ?_
                refine rb_iinc (lv' := [some (.ref 68), some (.int 21)]) rfl rfl ?_
                refine rb_goto ?_
                refine rn_step rfl ?_
                refine rb_iload rfl ?_
                refine rb_push ?_
                refine rb_cge (fun h => absurd h (by decide)) (fun _ => ?_)
                refine rb_aload rfl ?_
                refine rb_getf (v := .ref 74) rfl ?_
                refine rb_iload rfl ?_
                refine rb_aload rfl ?_
                refine rb_getf (v := .ref 69) rfl ?_
                refine rb_iload rfl ?_
                refine rb_iald rfl (by decide) (show _ = some (50) from rfl) ?_
                refine rb_iast rfl (by decide) (ok_lt (okL.sA (okL.sA (okL.sA (okL.sA (okL.sA (okL.sA (okL.sA (okL.sA (okL.sA (okL.sA (okL.sA (okL.sA (okL.sA (okL.sA (okL.sA (okL.sA (okL.sA (okL.sA (okL.sA (okL.sA (okL.sA s1_ok _ (List.length_set ..)) _ (List.length_set ..)) _ (List.length_set ..)) _ (List.length_set ..)) _ (List.length_set ..)) _ (List.length_set ..)) _ (List.length_set ..)) _ (List.length_set ..)) _ (List.length_set ..)) _ (List.length_set ..)) _ (List.length_set ..)) _ (List.length_set ..)) _ (List.length_set ..)) _ (List.length_set ..)) _ (List.length_set ..)) _ (List.length_set ..)) _ (List.length_set ..)) _ (List.length_set ..)) _ (List.length_set ..)) _ (List.length_set ..)) _ (List.length_set ..)) (c := 74) (n := 89) (by decide) rfl (by decide) (by decide)) (wa_74 _ _) ?_
                refine rb_iinc (lv' := [some (.ref 68), some (.int 22)]) rfl rfl ?_
                refine rb_goto ?_
                refine rn_step rfl ?_
                refine rb_iload rfl ?_
                refine rb_push ?_
                refine rb_cge (fun h => absurd h (by decide)) (fun _ => ?_)
                refine rb_aload rfl ?_
                refine rb_getf (v := .ref 74) rfl ?_
                refine rb_iload rfl ?_
                refine rb_aload rfl ?_
                refine rb_getf (v := .ref 69) rfl ?_
                refine rb_iload rfl ?_
                refine rb_iald rfl (by decide) (show _ = some (50) from rfl) ?_
                refine rb_iast rfl (by decide) (ok_lt (okL.sA (okL.sA (okL.sA (okL.sA (okL.sA (okL.sA (okL.sA (okL.sA (okL.sA (okL.sA (okL.sA (okL.sA (okL.sA (okL.sA (okL.sA (okL.sA (okL.sA (okL.sA (okL.sA (okL.sA (okL.sA (okL.sA s1_ok _ (List.length_set ..)) _ (List.length_set ..)) _ (List.length_set ..)) _ (List.length_set ..)) _ (List.length_set ..)) _ (List.length_set ..)) _ (List.length_set ..)) _ (List.length_set ..)) _ (List.length_set ..)) _ (List.length_set ..)) _ (List.length_set ..)) _ (List.length_set ..)) _ (List.length_set ..)) _ (List.length_set ..)) _ (List.length_set ..)) _ (List.length_set ..)) _ (List.length_set ..)) _ (List.length_set ..)) _ (List.length_set ..)) _ (List.length_set ..)) _ (List.length_set ..)) _ (List.length_set ..)) (c := 74) (n := 89) (by decide) rfl (by decide) (by decide)) (wa_74 _ _) ?_
                refine rb_iinc (lv' := [some (.ref 68), some (.int 23)]) rfl rfl ?_
                refine rb_goto ?_
                refine rn_step rfl ?_
                refine rb_iload rfl ?_
                refine rb_push ?_
                refine rb_cge (fun h => absurd h (by decide)) (fun _ => ?_)
                refine rb_aload rfl ?_
                refine rb_getf (v := .ref 74) rfl ?_
                refine rb_iload rfl ?_
                refine rb_aload rfl ?_
                refine rb_getf (v := .ref 69) rfl ?_
                refine rb_iload rfl ?_
                refine rb_iald rfl (by decide) (show _ = some (50) from rfl) ?_
                refine rb_iast rfl (by decide) (ok_lt (okL.sA (okL.sA (okL.sA (okL.sA (okL.sA (okL.sA (okL.sA (okL.sA (okL.sA (okL.sA (okL.sA (okL.sA (okL.sA (okL.sA (okL.sA (okL.sA (okL.sA (okL.sA (okL.sA (okL.sA (okL.sA (okL.sA (okL.sA s1_ok _ (List.length_set ..)) _ (List.length_set ..)) _ (List.length_set ..)) _ (List.length_set ..)) _ (List.length_set ..)) _ (List.length_set ..)) _ (List.length_set ..)) _ (List.length_set ..)) _ (List.length_set ..)) _ (List.length_set ..)) _ (List.length_set ..)) _ (List.length_set ..)) _ (List.length_set ..)) _ (List.length_set ..)) _ (List.length_set ..)) _ (List.length_set ..)) _ (List.length_set ..)) _ (List.length_set ..)) _ (List.length_set ..)) _ (List.length_set ..)) _ (List.length_set ..)) _ (List.length_set ..)) _ (List.length_set ..)) (c := 74) (n := 89) (by decide) rfl (by decide) (by decide)) (wa_74 _ _) ?_
                refine rb_iinc (lv' := [some (.ref 68), some (.int 24)]) rfl rfl ?_
                refine rb_goto ?_
                refine rn_step rfl ?_
                refine rb_iload rfl ?_
                refine rb_push ?_
                refine rb_cge (fun h => absurd h (by decide)) (fun _ => ?_)
                refine rb_aload rfl ?_
                refine rb_getf (v := .ref 74) rfl ?_
                refine rb_iload rfl ?_
                refine rb_aload rfl ?_
                refine rb_getf (v := .ref 69) rfl ?_
                refine rb_iload rfl ?_
                refine rb_iald rfl (by decide) (show _ = some (50) from rfl) ?_
                refine rb_iast rfl (by decide) (ok_lt (okL.sA (okL.sA (okL.sA (okL.sA (okL.sA (okL.sA (okL.sA (okL.sA (okL.sA (okL.sA (okL.sA (okL.sA (okL.sA (okL.sA (okL.sA (okL.sA (okL.sA (okL.sA (okL.sA (okL.sA (okL.sA (okL.sA (okL.sA (okL.sA s1_ok _ (List.length_set ..)) _ (List.length_set ..)) _ (List.length_set ..)) _ (List.length_set ..)) _ (List.length_set ..)) _ (List.length_set ..)) _ (List.length_set ..)) _ (List.length_set ..)) _ (List.length_set ..)) _ (List.length_set ..)) _ (List.length_set ..)) _ (List.length_set ..)) _ (List.length_set ..)) _ (List.length_set ..)) _ (List.length_set ..)) _ (List.length_set ..)) _ (List.length_set ..)) _ (List.length_set ..)) _ (List.length_set ..)) _ (List.length_set ..)) _ (List.length_set ..)) _ (List.length_set ..)) _ (List.length_set ..)) _ (List.length_set ..)) (c := 74) (n := 89) (by decide) rfl (by decide) (by decide)) (wa_74 _ _) ?_
                refine rb_iinc (lv' := [some (.ref 68), some (.int 25)]) rfl rfl ?_
                refine rb_goto ?_
                refine rn_step rfl ?_
                refine rb_iload rfl ?_
                refine rb_push ?_
                refine rb_cge (fun h => absurd h (by decide)) (fun _ => ?_)
                refine rb_aload rfl ?_
                refine rb_getf (v := .ref 74) rfl ?_
                refine rb_iload rfl ?_
                refine rb_aload rfl ?_
                refine rb_getf (v := .ref 69) rfl ?_
                refine rb_iload rfl ?_
                refine rb_iald rfl (by decide) (show _ = some (50) from rfl) ?_
                refine rb_iast rfl (by decide) (ok_lt (okL.sA (okL.sA (okL.sA (okL.sA (okL.sA (okL.sA (okL.sA (okL.sA (okL.sA (okL.sA (okL.sA (okL.sA (okL.sA (okL.sA (okL.sA (okL.sA (okL.sA (okL.sA (okL.sA (okL.sA (okL.sA (okL.sA (okL.sA (okL.sA (okL.sA s1_ok _ (List.length_set ..)) _ (List.length_set ..)) _ (List.length_set ..)) _ (List.length_set ..)) _ (List.length_set ..)) _ (List.length_set ..)) _ (List.length_set ..)) _ (List.length_set ..)) _ (List.length_set ..)) _ (List.length_set ..)) _ (List.length_set ..)) _ (List.length_set ..)) _ (List.length_set ..)) _ (List.length_set ..)) _ (List.length_set ..)) _ (List.length_set ..)) _ (List.length_set ..)) _ (List.length_set ..)) _ (List.length_set ..)) _ (List.length_set ..)) _ (List.length_set ..)) _ (List.length_set ..)) _ (List.length_set ..)) _ (List.length_set ..)) _ (List.length_set ..)) (c := 74) (n := 89) (by decide) rfl (by decide) (by decide)) (wa_74 _ _) ?_
                refine rb_iinc (lv' := [some (.ref 68), some (.int 26)]) rfl rfl ?_
                refine rb_goto ?_
                refine rn_step rfl ?_
                refine rb_iload rfl ?_
                refine rb_push ?_
                refine rb_cge (fun h => absurd h (by decide)) (fun _ => ?_)
                refine rb_aload rfl ?_
                refine rb_getf (v := .ref 74) rfl ?_
                refine rb_iload rfl ?_
                refine rb_aload rfl ?_
                refine rb_getf (v := .ref 69) rfl ?_
                refine rb_iload rfl ?_
                refine rb_iald rfl (by decide) (show _ = some (50) from rfl) ?_
                refine rb_iast rfl (by decide) (ok_lt (okL.sA (okL.sA (okL.sA (okL.sA (okL.sA (okL.sA (okL.sA (okL.sA (okL.sA (okL.sA (okL.sA (okL.sA (okL.sA (okL.sA (okL.sA (okL.sA (okL.sA (okL.sA (okL.sA (okL.sA (okL.sA (okL.sA (okL.sA (okL.sA (okL.sA (okL.sA s1_ok _ (List.length_set ..)) _ (List.length_set ..)) _ (List.length_set ..)) _ (List.length_set ..)) _ (List.length_set ..)) _ (List.length_set ..)) _ (List.length_set ..)) _ (List.length_set ..)) _ (List.length_set ..)) _ (List.length_set ..)) _ (List.length_set ..)) _ (List.length_set ..)) _ (List.length_set ..)) _ (List.length_set ..)) _ (List.length_set ..)) _ (List.length_set ..)) _ (List.length_set ..)) _ (List.length_set ..)) _ (List.length_set ..)) _ (List.length_set ..)) _ (List.length_set ..)) _ (List.length_set ..)) _ (List.length_set ..)) _ (List.length_set ..)) _ (List.length_set ..)) _ (List.length_set ..)) (c := 74) (n := 89) (by decide) rfl (by decide) (by decide)) (wa_74 _ _) ?_
                refine rb_iinc (lv' := [some (.ref 68), some (.int 27)]) rfl rfl ?_
                refine rb_goto ?_
                refine rn_step rfl ?_
                refine rb_iload rfl ?_
                refine rb_push ?_
                refine rb_cge (fun h => absurd h (by decide)) (fun _ => ?_)
                refine rb_aload rfl ?_
                refine rb_getf (v := .ref 74) rfl ?_
                refine rb_iload rfl ?_
                refine rb_aload rfl ?_
                refine rb_getf (v := .ref 69) rfl ?_
                refine rb_iload rfl ?_
                refine rb_iald rfl (by decide) (show _ = some (50) from rfl) ?_
                refine rb_iast rfl (by decide) (ok_lt (okL.sA (okL.sA (okL.sA (okL.sA (okL.sA (okL.sA (okL.sA (okL.sA (okL.sA (okL.sA (okL.sA (okL.sA (okL.sA (okL.sA (okL.sA (okL.sA (okL.sA (okL.sA (okL.sA (okL.sA (okL.sA (okL.sA (okL.sA (okL.sA (okL.sA (okL.sA (okL.sA s1_ok _ (List.length_set ..)) _ (List.length_set ..)) _ (List.length_set ..)) _ (List.length_set ..)) _ (List.length_set ..)) _ (List.length_set ..)) _ (List.length_set ..)) _ (List.length_set ..)) _ (List.length_set ..)) _ (List.length_set ..)) _ (List.length_set ..)) _ (List.length_set ..)) _ (List.length_set ..)) _ (List.length_set ..)) _ (List.length_set ..)) _ (List.length_set ..)) _ (List.length_set ..)) _ (List.length_set ..)) _ (List.length_set ..)) _ (List.length_set ..)) _ (List.length_set ..)) _ (List.length_set ..)) _ (List.length_set ..)) _ (List.length_set ..)) _ (List.length_set ..)) _ (List.length_set ..)) _ (List.length_set ..)) (c := 74) (n := 89) (by decide) rfl (by decide) (by decide)) (wa_74 _ _) ?_
                refine rb_iinc (lv' := [some (.ref 68), some (.int 28)]) rfl rfl ?_
                refine rb_goto ?_
                refine rn_step rfl ?_
                refine rb_iload rfl ?_
                refine rb_push ?_
                refine rb_cge (fun h => absurd h (by decide)) (fun _ => ?_)
                refine rb_aload rfl ?_
                refine rb_getf (v := .ref 74) rfl ?_
                refine rb_iload rfl ?_
                refine rb_aload rfl ?_
                refine rb_getf (v := .ref 69) rfl ?_
                refine rb_iload rfl ?_
                refine rb_iald rfl (by decide) (show _ = some (50) from rfl) ?_
                refine rb_iast rfl (by decide) (ok_lt (okL.sA (okL.sA (okL.sA (okL.sA (okL.sA (okL.sA (okL.sA (okL.sA (okL.sA (okL.sA (okL.sA (okL.sA (okL.sA (okL.sA (okL.sA (okL.sA (okL.sA (okL.sA (okL.sA (okL.sA (okL.sA (okL.sA (okL.sA (okL.sA (okL.sA (okL.sA (okL.sA (okL.sA s1_ok _ (List.length_set ..)) _ (List.length_set ..)) _ (List.length_set ..)) _ (List.length_set ..)) _ (List.length_set ..)) _ (List.length_set ..)) _ (List.length_set ..)) _ (List.length_set ..)) _ (List.length_set ..)) _ (List.length_set ..)) _ (List.length_set ..)) _ (List.length_set ..)) _ (List.length_set ..)) _ (List.length_set ..)) _ (List.length_set ..)) _ (List.length_set ..)) _ (List.length_set ..)) _ (List.length_set ..)) _ (List.length_set ..)) _ (List.length_set ..)) _ (List.length_set ..)) _ (List.length_set ..)) _ (List.length_set ..)) _ (List.length_set ..)) _ (List.length_set ..)) _ (List.length_set ..)) _ (List.length_set ..)) _ (List.length_set ..)) (c := 74) (n := 89) (by decide) rfl (by decide) (by decide)) (wa_74 _ _) ?_
                refine rb_iinc (lv' := [some (.ref 68), some (.int 29)]) rfl rfl ?_
                refine rb_goto ?_
                refine rn_step rfl ?_
                refine rb_iload rfl ?_
                refine rb_push ?_
                refine rb_cge (fun h => absurd h (by decide)) (fun _ => ?_)
                refine rb_aload rfl ?_
                refine rb_getf (v := .ref 74) rfl ?_
                refine rb_iload rfl ?_
                refine rb_aload rfl ?_
                refine rb_getf (v := .ref 69) rfl ?_
                refine rb_iload rfl ?_
                refine rb_iald rfl (by decide) (show _ = some (0) from rfl) ?_
                refine rb_iast rfl (by decide) (ok_lt (okL.sA (okL.sA (okL.sA (okL.sA (okL.sA (okL.sA (okL.sA (okL.sA (okL.sA (okL.sA (okL.sA (okL.sA (okL.sA (okL.sA (okL.sA (okL.sA (okL.sA (okL.sA (okL.sA (okL.sA (okL.sA (okL.sA (okL.sA (okL.sA (okL.sA (okL.sA (okL.sA (okL.sA (okL.sA s1_ok _ (List.length_set ..)) _ (List.length_set ..)) _ (List.length_set ..)) _ (List.length_set ..)) _ (List.length_set ..)) _ (List.length_set ..)) _ (List.length_set ..)) _ (List.length_set ..)) _ (List.length_set ..)) _ (List.length_set ..)) _ (List.length_set ..)) _ (List.length_set ..)) _ (List.length_set ..)) _ (List.length_set ..)) _ (List.length_set ..)) _ (List.length_set ..)) _ (List.length_set ..)) _ (List.length_set ..)) _ (List.length_set ..)) _ (List.length_set ..)) _ (List.length_set ..)) _ (List.length_set ..)) _ (List.length_set ..)) _ (List.length_set ..)) _ (List.length_set ..)) _ (List.length_set ..)) _ (List.length_set ..)) _ (List.length_set ..)) _ (List.length_set ..)) (c := 74) (n := 89) (by decide) rfl (by decide) (by decide)) (wa_74 _ _) ?_
                refine rb_iinc (lv' := [some (.ref 68), some (.int 30)]) rfl rfl ?_
                refine rb_goto ?_
                refine rn_step rfl ?_
                refine rb_iload rfl ?_
                refine rb_push ?_
                refine rb_cge (fun h => absurd h (by decide)) (fun _ => ?_)
                refine rb_aload rfl ?_
                refine rb_getf (v := .ref 74) rfl ?_
                refine rb_iload rfl ?_
                refine rb_aload rfl ?_
                refine rb_getf (v := .ref 69) rfl ?_
                refine rb_iload rfl ?_
                refine rb_iald rfl (by decide) (show _ = some (0) from rfl) ?_
                refine rb_iast rfl (by decide) (ok_lt (okL.sA (okL.sA (okL.sA (okL.sA (okL.sA (okL.sA (okL.sA (okL.sA (okL.sA (okL.sA (okL.sA (okL.sA (okL.sA (okL.sA (okL.sA (okL.sA (okL.sA (okL.sA (okL.sA (okL.sA (okL.sA (okL.sA (okL.sA (okL.sA (okL.sA (okL.sA (okL.sA (okL.sA (okL.sA (okL.sA s1_ok _ (List.length_set ..)) _ (List.length_set ..)) _ (List.length_set ..)) _ (List.length_set ..)) _ (List.length_set ..)) _ (List.length_set ..)) _ (List.length_set ..)) _ (List.length_set ..)) _ (List.length_set ..)) _ (List.length_set ..)) _ (List.length_set ..)) _ (List.length_set ..)) _ (List.length_set ..)) _ (List.length_set ..)) _ (List.length_set ..)) _ (List.length_set ..)) _ (List.length_set ..)) _ (List.length_set ..)) _ (List.length_set ..)) _ (List.length_set ..)) _ (List.length_set ..)) _ (List.length_set ..)) _ (List.length_set ..)) _ (List.length_set ..)) _ (List.length_set ..)) _ (List.length_set ..)) _ (List.length_set ..)) _ (List.length_set ..)) _ (List.length_set ..)) _ (List.length_set ..)) (c := 74) (n := 89) (by decide) rfl (by decide) (by decide)) (wa_74 _ _) ?_
                refine rb_iinc (lv' := [some (.ref 68), some (.int 31)]) rfl rfl ?_
                refine rb_goto ?_
                refine rn_step rfl ?_
                refine rb_iload rfl ?_
                refine rb_push ?_
                refine rb_cge (fun h => absurd h (by decide)) (fun _ => ?_)
                refine rb_aload rfl ?_
                refine rb_getf (v := .ref 74) rfl ?_
                refine rb_iload rfl ?_
                refine rb_aload rfl ?_
                refine rb_getf (v := .ref 69) rfl ?_
                refine rb_iload rfl ?_
                refine rb_iald rfl (by decide) (show _ = some (0) from rfl) ?_
                refine rb_iast rfl (by decide) (ok_lt (okL.sA (okL.sA (okL.sA (okL.sA (okL.sA (okL.sA (okL.sA (okL.sA (okL.sA (okL.sA (okL.sA (okL.sA (okL.sA (okL.sA (okL.sA (okL.sA (okL.sA (okL.sA (okL.sA (okL.sA (okL.sA (okL.sA (okL.sA (okL.sA (okL.sA (okL.sA (okL.sA (okL.sA (okL.sA (okL.sA (okL.sA s1_ok _ (List.length_set ..)) _ (List.length_set ..)) _ (List.length_set ..)) _ (List.length_set ..)) _ (List.length_set ..)) _ (List.length_set ..)) _ (List.length_set ..)) _ (List.length_set ..)) _ (List.length_set ..)) _ (List.length_set ..)) _ (List.length_set ..)) _ (List.length_set ..)) _ (List.length_set ..)) _ (List.length_set ..)) _ (List.length_set ..)) _ (List.length_set ..)) _ (List.length_set ..)) _ (List.length_set ..)) _ (List.length_set ..)) _ (List.length_set ..)) _ (List.length_set ..)) _ (List.length_set ..)) _ (List.length_set ..)) _ (List.length_set ..)) _ (List.length_set ..)) _ (List.length_set ..)) _ (List.length_set ..)) _ (List.length_set ..)) _ (List.length_set ..)) _ (List.length_set ..)) _ (List.length_set ..)) (c := 74) (n := 89) (by decide) rfl (by decide) (by decide)) (wa_74 _ _) ?_
                refine rb_iinc (lv' := [some (.ref 68), some (.int 32)]) rfl rfl ?_
                refine rb_goto ?_
                refine rn_step rfl ?_
                refine rb_iload rfl ?_
                refine rb_push ?_
                refine rb_cge (fun h => absurd h (by decide)) (fun _ => ?_)
                refine rb_aload rfl ?_
                refine rb_getf (v := .ref 74) rfl ?_
                refine rb_iload rfl ?_
                refine rb_aload rfl ?_
                refine rb_getf (v := .ref 69) rfl ?_
                refine rb_iload rfl ?_
                refine rb_iald rfl (by decide) (show _ = some (0) from rfl) ?_
                refine rb_iast rfl (by decide) (ok_lt (okL.sA (okL.sA (okL.sA (okL.sA (okL.sA (okL.sA (okL.sA (okL.sA (okL.sA (okL.sA (okL.sA (okL.sA (okL.sA (okL.sA (okL.sA (okL.sA (okL.sA (okL.sA (okL.sA (okL.sA (okL.sA (okL.sA (okL.sA (okL.sA (okL.sA (okL.sA (okL.sA (okL.sA (okL.sA (okL.sA (okL.sA (okL.sA s1_ok _ (List.length_set ..)) _ (List.length_set ..)) _ (List.length_set ..)) _ (List.length_set ..)) _ (List.length_set ..)) _ (List.length_set ..)) _ (List.length_set ..)) _ (List.length_set ..)) _ (List.length_set ..)) _ (List.length_set ..)) _ (List.length_set ..)) _ (List.length_set ..)) _ (List.length_set ..)) _ (List.length_set ..)) _ (List.length_set ..)) _ (List.length_set ..)) _ (List.length_set ..)) _ (List.length_set ..)) _ (List.length_set ..)) _ (List.length_set ..)) _ (List.length_set ..)) _ (List.length_set ..)) _ (List.length_set ..)) _ (List.length_set ..)) _ (List.length_set ..)) _ (List.length_set ..)) _ (List.length_set ..)) _ (List.length_set ..)) _ (List.length_set ..)) _ (List.length_set ..)) _ (List.length_set ..)) _ (List.length_set ..)) (c := 74) (n := 89) (by decide) rfl (by decide) (by decide)) (wa_74 _ _) ?_
                refine rb_iinc (lv' := [some (.ref 68), some (.int 33)]) rfl rfl ?_
                refine rb_goto ?_
                refine rn_step rfl ?_
                refine rb_iload rfl ?_
                refine rb_push ?_
                refine rb_cge (fun h => absurd h (by decide)) (fun _ => ?_)
                refine rb_aload rfl ?_
                refine rb_getf (v := .ref 74) rfl ?_
                refine rb_iload rfl ?_
                refine rb_aload rfl ?_
                refine rb_getf (v := .ref 69) rfl ?_
                refine rb_iload rfl ?_
                refine rb_iald rfl (by decide) (show _ = some (0) from rfl) ?_
                refine rb_iast rfl (by decide) (ok_lt (okL.sA (okL.sA (okL.sA (okL.sA (okL.sA (okL.sA (okL.sA (okL.sA (okL.sA (okL.sA (okL.sA (okL.sA (okL.sA (okL.sA (okL.sA (okL.sA (okL.sA (okL.sA (okL.sA (okL.sA (okL.sA (okL.sA (okL.sA (okL.sA (okL.sA (okL.sA (okL.sA (okL.sA (okL.sA (okL.sA (okL.sA (okL.sA (okL.sA s1_ok _ (List.length_set ..)) _ (List.length_set ..)) _ (List.length_set ..)) _ (List.length_set ..)) _ (List.length_set ..)) _ (List.length_set ..)) _ (List.length_set ..)) _ (List.length_set ..)) _ (List.length_set ..)) _ (List.length_set ..)) _ (List.length_set ..)) _ (List.length_set ..)) _ (List.length_set ..)) _ (List.length_set ..)) _ (List.length_set ..)) _ (List.length_set ..)) _ (List.length_set ..)) _ (List.length_set ..)) _ (List.length_set ..)) _ (List.length_set ..)) _ (List.length_set ..)) _ (List.length_set ..)) _ (List.length_set ..)) _ (List.length_set ..)) _ (List.length_set ..)) _ (List.length_set ..)) _ (List.length_set ..)) _ (List.length_set ..)) _ (List.length_set ..)) _ (List.length_set ..)) _ (List.length_set ..)) _ (List.length_set ..)) _ (List.length_set ..)) (c := 74) (n := 89) (by decide) rfl (by decide) (by decide)) (wa_74 _ _) ?_
                refine rb_iinc (lv' := [some (.ref 68), some (.int 34)]) rfl rfl ?_
                refine rb_goto ?_
                refine rn_step rfl ?_
                refine rb_iload rfl ?_
                refine rb_push ?_
                refine rb_cge (fun h => absurd h (by decide)) (fun _ => ?_)
                refine rb_aload rfl ?_
                refine rb_getf (v := .ref 74) rfl ?_
                refine rb_iload rfl ?_
                refine rb_aload rfl ?_
                refine rb_getf (v := .ref 69) rfl ?_
                refine rb_iload rfl ?_
                refine rb_iald rfl (by decide) (show _ = some (0) from rfl) ?_
                refine rb_iast rfl (by decide) (ok_lt (okL.sA (okL.sA (okL.sA (okL.sA (okL.sA (okL.sA (okL.sA (okL.sA (okL.sA (okL.sA (okL.sA (okL.sA (okL.sA (okL.sA (okL.sA (okL.sA (okL.sA (okL.sA (okL.sA (okL.sA (okL.sA (okL.sA (okL.sA (okL.sA (okL.sA (okL.sA (okL.sA (okL.sA (okL.sA (okL.sA (okL.sA (okL.sA (okL.sA (okL.sA s1_ok _ (List.length_set ..)) _ (List.length_set ..)) _ (List.length_set ..)) _ (List.length_set ..)) _ (List.length_set ..)) _ (List.length_set ..)) _ (List.length_set ..)) _ (List.length_set ..)) _ (List.length_set ..)) _ (List.length_set ..)) _ (List.length_set ..)) _ (List.length_set ..)) _ (List.length_set ..)) _ (List.length_set ..)) _ (List.length_set ..)) _ (List.length_set ..)) _ (List.length_set ..)) _ (List.length_set ..)) _ (List.length_set ..)) _ (List.length_set ..)) _ (List.length_set ..)) _ (List.length_set ..)) _ (List.length_set ..)) _ (List.length_set ..)) _ (List.length_set ..)) _ (List.length_set ..)) _ (List.length_set ..)) _ (List.length_set ..)) _ (List.length_set ..)) _ (List.length_set ..)) _ (List.length_set ..)) _ (List.length_set ..)) _ (List.length_set ..)) _ (List.length_set ..)) (c := 74) (n := 89) (by decide) rfl (by decide) (by decide)) (wa_74 _ _) ?_
                refine rb_iinc (lv' := [some (.ref 68), some (.int 35)]) rfl rfl ?_
                refine rb_goto ?_
                refine rn_step rfl ?_
                refine rb_iload rfl ?_
                refine rb_push ?_
                refine rb_cge (fun h => absurd h (by decide)) (fun _ => ?_)
                refine rb_aload rfl ?_
                refine rb_getf (v := .ref 74) rfl ?_
                refine rb_iload rfl ?_
                refine rb_aload rfl ?_
                refine rb_getf (v := .ref 69) rfl ?_
                refine rb_iload rfl ?_
                refine rb_iald rfl (by decide) (show _ = some (0) from rfl) ?_
                refine rb_iast rfl (by decide) (ok_lt (okL.sA (okL.sA (okL.sA (okL.sA (okL.sA (okL.sA (okL.sA (okL.sA (okL.sA (okL.sA (okL.sA (okL.sA (okL.sA (okL.sA (okL.sA (okL.sA (okL.sA (okL.sA (okL.sA (okL.sA (okL.sA (okL.sA (okL.sA (okL.sA (okL.sA (okL.sA (okL.sA (okL.sA (okL.sA (okL.sA (okL.sA (okL.sA (okL.sA (okL.sA (okL.sA s1_ok _ (List.length_set ..)) _ (List.length_set ..)) _ (List.length_set ..)) _ (List.length_set ..)) _ (List.length_set ..)) _ (List.length_set ..)) _ (List.length_set ..)) _ (List.length_set ..)) _ (List.length_set ..)) _ (List.length_set ..)) _ (List.length_set ..)) _ (List.length_set ..)) _ (List.length_set ..)) _ (List.length_set ..)) _ (List.length_set ..)) _ (List.length_set ..)) _ (List.length_set ..)) _ (List.length_set ..)) _ (List.length_set ..)) _ (List.length_set ..)) _ (List.length_set ..)) _ (List.length_set ..)) _ (List.length_set ..)) _ (List.length_set ..)) _ (List.length_set ..)) _ (List.length_set ..)) _ (List.length_set ..)) _ (List.length_set ..)) _ (List.length_set ..)) _ (List.length_set ..)) _ (List.length_set ..)) _ (List.length_set ..)) _ (List.length_set ..)) _ (List.length_set ..)) _ (List.length_set ..)) (c := 74) (n := 89) (by decide) rfl (by decide) (by decide)) (wa_74 _ _) ?_
                refine rb_iinc (lv' := [some (.ref 68), some (.int 36)]) rfl rfl ?_
                refine rb_goto ?_
                refine rn_step rfl ?_
                refine rb_iload rfl ?_
                refine rb_push ?_
                refine rb_cge (fun h => absurd h (by decide)) (fun _ => ?_)
                refine rb_aload rfl ?_
                refine rb_getf (v := .ref 74) rfl ?_
                refine rb_iload rfl ?_
                refine rb_aload rfl ?_
                refine rb_getf (v := .ref 69) rfl ?_
                refine rb_iload rfl ?_
                refine rb_iald rfl (by decide) (show _ = some (0) from rfl) ?_
                refine rb_iast rfl (by decide) (ok_lt (okL.sA (okL.sA (okL.sA (okL.sA (okL.sA (okL.sA (okL.sA (okL.sA (okL.sA (okL.sA (okL.sA (okL.sA (okL.sA (okL.sA (okL.sA (okL.sA (okL.sA (okL.sA (okL.sA (okL.sA (okL.sA (okL.sA (okL.sA (okL.sA (okL.sA (okL.sA (okL.sA (okL.sA (okL.sA (okL.sA (okL.sA (okL.sA (okL.sA (okL.sA (okL.sA (okL.sA s1_ok _ (List.length_set ..)) _ (List.length_set ..)) _ (List.length_set ..)) _ (List.length_set ..)) _ (List.length_set ..)) _ (List.length_set ..)) _ (List.length_set ..)) _ (List.length_set ..)) _ (List.length_set ..)) _ (List.length_set ..)) _ (List.length_set ..)) _ (List.length_set ..)) _ (List.length_set ..)) _ (List.length_set ..)) _ (List.length_set ..)) _ (List.length_set ..)) _ (List.length_set ..)) _ (List.length_set ..)) _ (List.length_set ..)) _ (List.length_set ..)) _ (List.length_set ..)) _ (List.length_set ..)) _ (List.length_set ..)) _ (List.length_set ..)) _ (List.length_set ..)) _ (List.length_set ..)) _ (List.length_set ..)) _ (List.length_set ..)) _ (List.length_set ..)) _ (List.length_set ..)) _ (List.length_set ..)) _ (List.length_set ..)) _ (List.length_set ..)) _ (List.length_set ..)) _ (List.length_set ..)) _ (List.length_set ..)) (c := 74) (n := 89) (by decide) rfl (by decide) (by decide)) (wa_74 _ _) ?_
                refine rb_iinc (lv' := [some (.ref 68), some (.int 37)]) rfl rfl ?_
                refine rb_goto ?_
                refine rn_step rfl ?_
                refine rb_iload rfl ?_
                refine rb_push ?_
                refine rb_cge (fun h => absurd h (by decide)) (fun _ => ?_)
                refine rb_aload rfl ?_
                refine rb_getf (v := .ref 74) rfl ?_
                refine rb_iload rfl ?_
                refine rb_aload rfl ?_
                refine rb_getf (v := .ref 69) rfl ?_
                refine rb_iload rfl ?_
                refine rb_iald rfl (by decide) (show _ = some (0) from rfl) ?_
                refine rb_iast rfl (by decide) (ok_lt (okL.sA (okL.sA (okL.sA (okL.sA (okL.sA (okL.sA (okL.sA (okL.sA (okL.sA (okL.sA (okL.sA (okL.sA (okL.sA (okL.sA (okL.sA (okL.sA (okL.sA (okL.sA (okL.sA (okL.sA (okL.sA (okL.sA (okL.sA (okL.sA (okL.sA (okL.sA (okL.sA (okL.sA (okL.sA (okL.sA (okL.sA (okL.sA (okL.sA (okL.sA (okL.sA (okL.sA (okL.sA s1_ok _ (List.length_set ..)) _ (List.length_set ..)) _ (List.length_set ..)) _ (List.length_set ..)) _ (List.length_set ..)) _ (List.length_set ..)) _ (List.length_set ..)) _ (List.length_set ..)) _ (List.length_set ..)) _ (List.length_set ..)) _ (List.length_set ..)) _ (List.length_set ..)) _ (List.length_set ..)) _ (List.length_set ..)) _ (List.length_set ..)) _ (List.length_set ..)) _ (List.length_set ..)) _ (List.length_set ..)) _ (List.length_set ..)) _ (List.length_set ..)) _ (List.length_set ..)) _ (List.length_set ..)) _ (List.length_set ..)) _ (List.length_set ..)) _ (List.length_set ..)) _ (List.length_set ..)) _ (List.length_set ..)) _ (List.length_set ..)) _ (List.length_set ..)) _ (List.length_set ..)) _ (List.length_set ..)) _ (List.length_set ..)) _ (List.length_set ..)) _ (List.length_set ..)) _ (List.length_set ..)) _ (List.length_set ..)) _ (List.length_set ..)) (c := 74) (n := 89) (by decide) rfl (by decide) (by decide)) (wa_74 _ _) ?_
                refine rb_iinc (lv' := [some (.ref 68), some (.int 38)]) rfl rfl ?_
                refine rb_goto ?_
                refine rn_step rfl ?_
                refine rb_iload rfl ?_
                refine rb_push ?_
                refine rb_cge (fun h => absurd h (by decide)) (fun _ => ?_)
                refine rb_aload rfl ?_
                refine rb_getf (v := .ref 74) rfl ?_
                refine rb_iload rfl ?_
                refine rb_aload rfl ?_
                refine rb_getf (v := .ref 69) rfl ?_
                refine rb_iload rfl ?_
                refine rb_iald rfl (by decide) (show _ = some (0) from rfl) ?_
                refine rb_iast rfl (by decide) (ok_lt (okL.sA (okL.sA (okL.sA (okL.sA (okL.sA (okL.sA (okL.sA (okL.sA (okL.sA (okL.sA (okL.sA (okL.sA (okL.sA (okL.sA (okL.sA (okL.sA (okL.sA (okL.sA (okL.sA (okL.sA (okL.sA (okL.sA (okL.sA (okL.sA (okL.sA (okL.sA (okL.sA (okL.sA (okL.sA (okL.sA (okL.sA (okL.sA (okL.sA (okL.sA (okL.sA (okL.sA (okL.sA (okL.sA s1_ok _ (List.length_set ..)) _ (List.length_set ..)) _ (List.length_set ..)) _ (List.length_set ..)) _ (List.length_set ..)) _ (List.length_set ..)) _ (List.length_set ..)) _ (List.length_set ..)) _ (List.length_set ..)) _ (List.length_set ..)) _ (List.length_set ..)) _ (List.length_set ..)) _ (List.length_set ..)) _ (List.length_set ..)) _ (List.length_set ..)) _ (List.length_set ..)) _ (List.length_set ..)) _ (List.length_set ..)) _ (List.length_set ..)) _ (List.length_set ..)) _ (List.length_set ..)) _ (List.length_set ..)) _ (List.length_set ..)) _ (List.length_set ..)) _ (List.length_set ..)) _ (List.length_set ..)) _ (List.length_set ..)) _ (List.length_set ..)) _ (List.length_set ..)) _ (List.length_set ..)) _ (List.length_set ..)) _ (List.length_set ..)) _ (List.length_set ..)) _ (List.length_set ..)) _ (List.length_set ..)) _ (List.length_set ..)) _ (List.length_set ..)) _ (List.length_set ..)) (c := 74) (n := 89) (by decide) rfl (by decide) (by decide)) (wa_74 _ _) ?_
                refine rb_iinc (lv' := [some (.ref 68), some (.int 39)]) rfl rfl ?_
                refine rb_goto ?_
                refine rn_step rfl ?_
                refine rb_iload rfl ?_
                refine rb_push ?_
                refine rb_cge (fun h => absurd h (by decide)) (fun _ => ?_)
                refine rb_aload rfl ?_
                refine rb_getf (v := .ref 74) rfl ?_
                refine rb_iload rfl ?_
                refine rb_aload rfl ?_
                refine rb_getf (v := .ref 69) rfl ?_
                refine rb_iload rfl ?_
                refine rb_iald rfl (by decide) (show _ = some (0) from rfl) ?_
                refine rb_iast rfl (by decide) (ok_lt (okL.sA (okL.sA (okL.sA (okL.sA (okL.sA (okL.sA (okL.sA (okL.sA (okL.sA (okL.sA (okL.sA (okL.sA (okL.sA (okL.sA (okL.sA (okL.sA (okL.sA (okL.sA (okL.sA (okL.sA (okL.sA (okL.sA (okL.sA (okL.sA (okL.sA (okL.sA (okL.sA (okL.sA (okL.sA (okL.sA (okL.sA (okL.sA (okL.sA (okL.sA (okL.sA (okL.sA (okL.sA (okL.sA (okL.sA s1_ok _ (List.length_set ..)) _ (List.length_set ..)) _ (List.length_set ..)) _ (List.length_set ..)) _ (List.length_set ..)) _ (List.length_set ..)) _ (List.length_set ..)) _ (List.length_set ..)) _ (List.length_set ..)) _ (List.length_set ..)) _ (List.length_set ..)) _ (List.length_set ..)) _ (List.length_set ..)) _ (List.length_set ..)) _ (List.length_set ..)) _ (List.length_set ..)) _ (List.length_set ..)) _ (List.length_set ..)) _ (List.length_set ..)) _ (List.length_set ..)) _ (List.length_set ..)) _ (List.length_set ..)) _ (List.length_set ..)) _ (List.length_set ..)) _ (List.length_set ..)) _ (List.length_set ..)) _ (List.length_set ..)) _ (List.length_set ..)) _ (List.length_set ..)) _ (List.length_set ..)) _ (List.length_set ..)) _ (List.length_set ..)) _ (List.length_set ..)) _ (List.length_set ..)) _ (List.length_set ..)) _ (List.length_set ..)) _ (List.length_set ..)) _ (List.length_set ..)) _ (List.length_set ..)) (c := 74) (n := 89) (by decide) rfl (by decide) (by decide)) (wa_74 _ _) ?_
                refine rb_iinc (lv' := [some (.ref 68), some (.int 40)]) rfl rfl ?_
                refine rb_goto ?_
                refine rn_step rfl ?_
                refine rb_iload rfl ?_
                refine rb_push ?_
                refine rb_cge (fun h => absurd h (by decide)) (fun _ => ?_)
                refine rb_aload rfl ?_
                refine rb_getf (v := .ref 74) rfl ?_
                refine rb_iload rfl ?_
                refine rb_aload rfl ?_
                refine rb_getf (v := .ref 69) rfl ?_
                refine rb_iload rfl ?_
                refine rb_iald rfl (by decide) (show _ = some (0) from rfl) ?_
                refine rb_iast rfl (by decide) (ok_lt (okL.sA (okL.sA (okL.sA (okL.sA (okL.sA (okL.sA (okL.sA (okL.sA (okL.sA (okL.sA (okL.sA (okL.sA (okL.sA (okL.sA (okL.sA (okL.sA (okL.sA (okL.sA (okL.sA (okL.sA (okL.sA (okL.sA (okL.sA (okL.sA (okL.sA (okL.sA (okL.sA (okL.sA (okL.sA (okL.sA (okL.sA (okL.sA (okL.sA (okL.sA (okL.sA (okL.sA (okL.sA (okL.sA (okL.sA (okL.sA s1_ok _ (List.length_set ..)) _ (List.length_set ..)) _ (List.length_set ..)) _ (List.length_set ..)) _ (List.length_set ..)) _ (List.length_set ..)) _ (List.length_set ..)) _ (List.length_set ..)) _ (List.length_set ..)) _ (List.length_set ..)) _ (List.length_set ..)) _ (List.length_set ..)) _ (List.length_set ..)) _ (List.length_set ..)) _ (List.length_set ..)) _ (List.length_set ..)) _ (List.length_set ..)) _ (List.length_set ..)) _ (List.length_set ..)) _ (List.length_set ..)) _ (List.length_set ..)) _ (List.length_set ..)) _ (List.length_set ..)) _ (List.length_set ..)) _ (List.length_set ..)) _ (List.length_set ..)) _ (List.length_set ..)) _ (List.length_set ..)) _ (List.length_set ..)) _ (List.length_set ..)) _ (List.length_set ..)) _ (List.length_set ..)) _ (List.length_set ..)) _ (List.length_set ..)) _ (List.length_set ..)) _ (List.length_set ..)) _ (List.length_set ..)) _ (List.length_set ..)) _ (List.length_set ..)) _ (List.length_set ..)) (c := 74) (n := 89) (by decide) rfl (by decide) (by decide)) (wa_74 _ _) ?_
                refine rb_iinc (lv' := [some (.ref 68), some (.int 41)]) rfl rfl ?_
                refine rb_goto ?_
                refine rn_step rfl ?_
                refine rb_iload rfl ?_
                refine rb_push ?_
                refine rb_cge (fun h => absurd h (by decide)) (fun _ => ?_)
                refine rb_aload rfl ?_
                refine rb_getf (v := .ref 74) rfl ?_
                refine rb_iload rfl ?_
                refine rb_aload rfl ?_
                refine rb_getf (v := .ref 69) rfl ?_
                refine rb_iload rfl ?_
                refine rb_iald rfl (by decide) (show _ = some (0) from rfl) ?_
                refine rb_iast rfl (by decide) (ok_lt (okL.sA (okL.sA (okL.sA (okL.sA (okL.sA (okL.sA (okL.sA (okL.sA (okL.sA (okL.sA (okL.sA (okL.sA (okL.sA (okL.sA (okL.sA (okL.sA (okL.sA (okL.sA (okL.sA (okL.sA (okL.sA (okL.sA (okL.sA (okL.sA (okL.sA (okL.sA (okL.sA (okL.sA (okL.sA (okL.sA (okL.sA (okL.sA (okL.sA (okL.sA (okL.sA (okL.sA (okL.sA (okL.sA (okL.sA (okL.sA (okL.sA s1_ok _ (List.length_set ..)) _ (List.length_set ..)) _ (List.length_set ..)) _ (List.length_set ..)) _ (List.length_set ..)) _ (List.length_set ..)) _ (List.length_set ..)) _ (List.length_set ..)) _ (List.length_set ..)) _ (List.length_set ..)) _ (List.length_set ..)) _ (List.length_set ..)) _ (List.length_set ..)) _ (List.length_set ..)) _ (List.length_set ..)) _ (List.length_set ..)) _ (List.length_set ..)) _ (List.length_set ..)) _ (List.length_set ..)) _ (List.length_set ..)) _ (List.length_set ..)) _ (List.length_set ..)) _ (List.length_set ..)) _ (List.length_set ..)) _ (List.length_set ..)) _ (List.length_set ..)) _ (List.length_set ..)) _ (List.length_set ..)) _ (List.length_set ..)) _ (List.length_set ..)) _ (List.length_set ..)) _ (List.length_set ..)) _ (List.length_set ..)) _ (List.length_set ..)) _ (List.length_set ..)) _ (List.length_set ..)) _ (List.length_set ..)) _ (List.length_set ..)) _ (List.length_set ..)) _ (List.length_set ..)) _ (List.length_set ..)) (c := 74) (n := 89) (by decide) rfl (by decide) (by decide)) (wa_74 _ _) ?_
                refine rb_iinc (lv' := [some (.ref 68), some (.int 42)]) rfl rfl ?_
                refine rb_goto ?_
                refine rn_step rfl ?_
                refine rb_iload rfl ?_
                refine rb_push ?_
                refine rb_cge (fun h => absurd h (by decide)) (fun _ => ?_)
                refine rb_aload rfl ?_
                refine rb_getf (v := .ref 74) rfl ?_
                refine rb_iload rfl ?_
                refine rb_aload rfl ?_
                refine rb_getf (v := .ref 69) rfl ?_
                refine rb_iload rfl ?_
                refine rb_iald rfl (by decide) (show _ = some (0) from rfl) ?_
                refine rb_iast rfl (by decide) (ok_lt (okL.sA (okL.sA (okL.sA (okL.sA (okL.sA (okL.sA (okL.sA (okL.sA (okL.sA (okL.sA (okL.sA (okL.sA (okL.sA (okL.sA (okL.sA (okL.sA (okL.sA (okL.sA (okL.sA (okL.sA (okL.sA (okL.sA (okL.sA (okL.sA (okL.sA (okL.sA (okL.sA (okL.sA (okL.sA (okL.sA (okL.sA (okL.sA (okL.sA (okL.sA (okL.sA (okL.sA (okL.sA (okL.sA (okL.sA (okL.sA (okL.sA (okL.sA s1_ok _ (List.length_set ..)) _ (List.length_set ..)) _ (List.length_set ..)) _ (List.length_set ..)) _ (List.length_set ..)) _ (List.length_set ..)) _ (List.length_set ..)) _ (List.length_set ..)) _ (List.length_set ..)) _ (List.length_set ..)) _ (List.length_set ..)) _ (List.length_set ..)) _ (List.length_set ..)) _ (List.length_set ..)) _ (List.length_set ..)) _ (List.length_set ..)) _ (List.length_set ..)) _ (List.length_set ..)) _ (List.length_set ..)) _ (List.length_set ..)) _ (List.length_set ..)) _ (List.length_set ..)) _ (List.length_set ..)) _ (List.length_set ..)) _ (List.length_set ..)) _ (List.length_set ..)) _ (List.length_set ..)) _ (List.length_set ..)) _ (List.length_set ..)) _ (List.length_set ..)) _ (List.length_set ..)) _ (List.length_set ..)) _ (List.length_set ..)) _ (List.length_set ..)) _ (List.length_set ..)) _ (List.length_set ..)) _ (List.length_set ..)) _ (List.length_set ..)) _ (List.length_set ..)) _ (List.length_set ..)) _ (List.length_set ..)) _ (List.length_set ..)) (c := 74) (n := 89) (by decide) rfl (by decide) (by decide)) (wa_74 _ _) ?_
                refine rb_iinc (lv' := [some (.ref 68), some (.int 43)]) rfl rfl ?_
                refine rb_goto ?_
                refine rn_step rfl ?_
                refine rb_iload rfl ?_
                refine rb_push ?_
                refine rb_cge (fun h => absurd h (by decide)) (fun _ => ?_)
                refine rb_aload rfl ?_
                refine rb_getf (v := .ref 74) rfl ?_
                refine rb_iload rfl ?_
                refine rb_aload rfl ?_
                refine rb_getf (v := .ref 69) rfl ?_
                refine rb_iload rfl ?_
                refine rb_iald rfl (by decide) (show _ = some (0) from rfl) ?_
                refine rb_iast rfl (by decide) (ok_lt (okL.sA (okL.sA (okL.sA (okL.sA (okL.sA (okL.sA (okL.sA (okL.sA (okL.sA (okL.sA (okL.sA (okL.sA (okL.sA (okL.sA (okL.sA (okL.sA (okL.sA (okL.sA (okL.sA (okL.sA (okL.sA (okL.sA (okL.sA (okL.sA (okL.sA (okL.sA (okL.sA (okL.sA (okL.sA (okL.sA (okL.sA (okL.sA (okL.sA (okL.sA (okL.sA (okL.sA (okL.sA (okL.sA (okL.sA (okL.sA (okL.sA (okL.sA (okL.sA s1_ok _ (List.length_set ..)) _ (List.length_set ..)) _ (List.length_set ..)) _ (List.length_set ..)) _ (List.length_set ..)) _ (List.length_set ..)) _ (List.length_set ..)) _ (List.length_set ..)) _ (List.length_set ..)) _ (List.length_set ..)) _ (List.length_set ..)) _ (List.length_set ..)) _ (List.length_set ..)) _ (List.length_set ..)) _ (List.length_set ..)) _ (List.length_set ..)) _ (List.length_set ..)) _ (List.length_set ..)) _ (List.length_set ..)) _ (List.length_set ..)) _ (List.length_set ..)) _ (List.length_set ..)) _ (List.length_set ..)) _ (List.length_set ..)) _ (List.length_set ..)) _ (List.length_set ..)) _ (List.length_set ..)) _ (List.length_set ..)) _ (List.length_set ..)) _ (List.length_set ..)) _ (List.length_set ..)) _ (List.length_set ..)) _ (List.length_set ..)) _ (List.length_set ..)) _ (List.length_set ..)) _ (List.length_set ..)) _ (List.length_set ..)) _ (List.length_set ..)) _ (List.length_set ..)) _ (List.length_set ..)) _ (List.length_set ..)) _ (List.length_set ..)) _ (List.length_set ..)) (c := 74) (n := 89) (by decide) rfl (by decide) (by decide)) (wa_74 _ _) ?_
                refine rb_iinc (lv' := [some (.ref 68), some (.int 44)]) rfl rfl ?_
                refine rb_goto ?_
                refine rn_step rfl ?_
                refine rb_iload rfl ?_
                refine rb_push ?_
                refine rb_cge (fun h => absurd h (by decide)) (fun _ => ?_)
                refine rb_aload rfl ?_
                refine rb_getf (v := .ref 74) rfl ?_
                refine rb_iload rfl ?_
                refine rb_aload rfl ?_
                refine rb_getf (v := .ref 69) rfl ?_
                refine rb_iload rfl ?_
                refine rb_iald rfl (by decide) (show _ = some (0) from rfl) ?_
                refine rb_iast rfl (by decide) (ok_lt (okL.sA (okL.sA (okL.sA (okL.sA (okL.sA (okL.sA (okL.sA (okL.sA (okL.sA (okL.sA (okL.sA (okL.sA (okL.sA (okL.sA (okL.sA (okL.sA (okL.sA (okL.sA (okL.sA (okL.sA (okL.sA (okL.sA (okL.sA (okL.sA (okL.sA (okL.sA (okL.sA (okL.sA (okL.sA (okL.sA (okL.sA (okL.sA (okL.sA (okL.sA (okL.sA (okL.sA (okL.sA (okL.sA (okL.sA (okL.sA (okL.sA (okL.sA (okL.sA (okL.sA s1_ok _ (List.length_set ..)) _ (List.length_set ..)) _ (List.length_set ..)) _ (List.length_set ..)) _ (List.length_set ..)) _ (List.length_set ..)) _ (List.length_set ..)) _ (List.length_set ..)) _ (List.length_set ..)) _ (List.length_set ..)) _ (List.length_set ..)) _ (List.length_set ..)) _ (List.length_set ..)) _ (List.length_set ..)) _ (List.length_set ..)) _ (List.length_set ..)) _ (List.length_set ..)) _ (List.length_set ..)) _ (List.length_set ..)) _ (List.length_set ..)) _ (List.length_set ..)) _ (List.length_set ..)) _ (List.length_set ..)) _ (List.length_set ..)) _ (List.length_set ..)) _ (List.length_set ..)) _ (List.length_set ..)) _ (List.length_set ..)) _ (List.length_set ..)) _ (List.length_set ..)) _ (List.length_set ..)) _ (List.length_set ..)) _ (List.length_set ..)) _ (List.length_set ..)) _ (List.length_set ..)) _ (List.length_set ..)) _ (List.length_set ..)) _ (List.length_set ..)) _ (List.length_set ..)) _ (List.length_set ..)) _ (List.length_set ..)) _ (List.length_set ..)) _ (List.length_set ..)) _ (List.length_set ..)) (c := 74) (n := 89) (by decide) rfl (by decide) (by decide)) (wa_74 _ _) ?_
                refine rb_iinc (lv' := [some (.ref 68), some (.int 45)]) rfl rfl ?_
                refine rb_goto ?_
                refine rn_step rfl ?_
                refine rb_iload rfl ?_
                refine rb_push ?_
                refine rb_cge (fun h => absurd h (by decide)) (fun _ => ?_)
                refine rb_aload rfl ?_
                refine rb_getf (v := .ref 74) rfl ?_
                refine rb_iload rfl ?_
                refine rb_aload rfl ?_
                refine rb_getf (v := .ref 69) rfl ?_
                refine rb_iload rfl ?_
                refine rb_iald rfl (by decide) (show _ = some (0) from rfl) ?_
                refine rb_iast rfl (by decide) (ok_lt (okL.sA (okL.sA (okL.sA (okL.sA (okL.sA (okL.sA (okL.sA (okL.sA (okL.sA (okL.sA (okL.sA (okL.sA (okL.sA (okL.sA (okL.sA (okL.sA (okL.sA (okL.sA (okL.sA (okL.sA (okL.sA (okL.sA (okL.sA (okL.sA (okL.sA (okL.sA (okL.sA (okL.sA (okL.sA (okL.sA (okL.sA (okL.sA (okL.sA (okL.sA (okL.sA (okL.sA (okL.sA (okL.sA (okL.sA (okL.sA (okL.sA (okL.sA (okL.sA (okL.sA (okL.sA s1_ok _ (List.length_set ..)) _ (List.length_set ..)) _ (List.length_set ..)) _ (List.length_set ..)) _ (List.length_set ..)) _ (List.length_set ..)) _ (List.length_set ..)) _ (List.length_set ..)) _ (List.length_set ..)) _ (List.length_set ..)) _ (List.length_set ..)) _ (List.length_set ..)) _ (List.length_set ..)) _ (List.length_set ..)) _ (List.length_set ..)) _ (List.length_set ..)) _ (List.length_set ..)) _ (List.length_set ..)) _ (List.length_set ..)) _ (List.length_set ..)) _ (List.length_set ..)) _ (List.length_set ..)) _ (List.length_set ..)) _ (List.length_set ..)) _ (List.length_set ..)) _ (List.length_set ..)) _ (List.length_set ..)) _ (List.length_set ..)) _ (List.length_set ..)) _ (List.length_set ..)) _ (List.length_set ..)) _ (List.length_set ..)) _ (List.length_set ..)) _ (List.length_set ..)) _ (List.length_set ..)) _ (List.length_set ..)) _ (List.length_set ..)) _ (List.length_set ..)) _ (List.length_set ..)) _ (List.length_set ..)) _ (List.length_set ..)) _ (List.length_set ..)) _ (List.length_set ..)) _ (List.length_set ..)) _ (List.length_set ..)) (c := 74) (n := 89) (by decide) rfl (by decide) (by decide)) (wa_74 _ _) ?_
                refine rb_iinc (lv' := [some (.ref 68), some (.int 46)]) rfl rfl ?_
                refine rb_goto ?_
                refine rn_step rfl ?_
                refine rb_iload rfl ?_
                refine rb_push ?_
                refine rb_cge (fun h => absurd h (by decide)) (fun _ => ?_)
                refine rb_aload rfl ?_
                refine rb_getf (v := .ref 74) rfl ?_
                refine rb_iload rfl ?_
                refine rb_aload rfl ?_
                refine rb_getf (v := .ref 69) rfl ?_
                refine rb_iload rfl ?_
                refine rb_iald rfl (by decide) (show _ = some (0) from rfl) ?_
                refine rb_iast rfl (by decide) (ok_lt (okL.sA (okL.sA (okL.sA (okL.sA (okL.sA (okL.sA (okL.sA (okL.sA (okL.sA (okL.sA (okL.sA (okL.sA (okL.sA (okL.sA (okL.sA (okL.sA (okL.sA (okL.sA (okL.sA (okL.sA (okL.sA (okL.sA (okL.sA (okL.sA (okL.sA (okL.sA (okL.sA (okL.sA (okL.sA (okL.sA (okL.sA (okL.sA (okL.sA (okL.sA (okL.sA (okL.sA (okL.sA (okL.sA (okL.sA (okL.sA (okL.sA (okL.sA (okL.sA (okL.sA (okL.sA (okL.sA s1_ok _ (List.length_set ..)) _ (List.length_set ..)) _ (List.length_set ..)) _ (List.length_set ..)) _ (List.length_set ..)) _ (List.length_set ..)) _ (List.length_set ..)) _ (List.length_set ..)) _ (List.length_set ..)) _ (List.length_set ..)) _ (List.length_set ..)) _ (List.length_set ..)) _ (List.length_set ..)) _ (List.length_set ..)) _ (List.length_set ..)) _ (List.length_set ..)) _ (List.length_set ..)) _ (List.length_set ..)) _ (List.length_set ..)) _ (List.length_set ..)) _ (List.length_set ..)) _ (List.length_set ..)) _ (List.length_set ..)) _ (List.length_set ..)) _ (List.length_set ..)) _ (List.length_set ..)) _ (List.length_set ..)) _ (List.length_set ..)) _ (List.length_set ..)) _ (List.length_set ..)) _ (List.length_set ..)) _ (List.length_set ..)) _ (List.length_set ..)) _ (List.length_set ..)) _ (List.length_set ..)) _ (List.length_set ..)) _ (List.length_set ..)) _ (List.length_set ..)) _ (List.length_set ..)) _ (List.length_set ..)) _ (List.length_set ..)) _ (List.length_set ..)) _ (List.length_set ..)) _ (List.length_set ..)) _ (List.length_set ..)) _ (List.length_set ..)) (c := 74) (n := 89) (by decide) rfl (by decide) (by decide)) (wa_74 _ _) ?_
                refine rb_iinc (lv' := [some (.ref 68), some (.int 47)]) rfl rfl ?_
                refine rb_goto ?_
                refine rn_step rfl ?_
                refine rb_iload rfl ?_
                refine rb_push ?_
                refine rb_cge (fun h => absurd h (by decide)) (fun _ => ?_)
                refine rb_aload rfl ?_
                refine rb_getf (v := .ref 74) rfl ?_
                refine rb_iload rfl ?_
                refine rb_aload rfl ?_
                refine rb_getf (v := .ref 69) rfl ?_
                refine rb_iload rfl ?_
                refine rb_iald rfl (by decide) (show _ = some (0) from rfl) ?_
                refine rb_iast rfl (by decide) (ok_lt (okL.sA (okL.sA (okL.sA (okL.sA (okL.sA (okL.sA (okL.sA (okL.sA (okL.sA (okL.sA (okL.sA (okL.sA (okL.sA (okL.sA (okL.sA (okL.sA (okL.sA (okL.sA (okL.sA (okL.sA (okL.sA (okL.sA (okL.sA (okL.sA (okL.sA (okL.sA (okL.sA (okL.sA (okL.sA (okL.sA (okL.sA (okL.sA (okL.sA (okL.sA (okL.sA (okL.sA (okL.sA (okL.sA (okL.sA (okL.sA (okL.sA (okL.sA (okL.sA (okL.sA (okL.sA (okL.sA (okL.sA s1_ok _ (List.length_set ..)) _ (List.length_set ..)) _ (List.length_set ..)) _ (List.length_set ..)) _ (List.length_set ..)) _ (List.length_set ..)) _ (List.length_set ..)) _ (List.length_set ..)) _ (List.length_set ..)) _ (List.length_set ..)) _ (List.length_set ..)) _ (List.length_set ..)) _ (List.length_set ..)) _ (List.length_set ..)) _ (List.length_set ..)) _ (List.length_set ..)) _ (List.length_set ..)) _ (List.length_set ..)) _ (List.length_set ..)) _ (List.length_set ..)) _ (List.length_set ..)) _ (List.length_set ..)) _ (List.length_set ..)) _ (List.length_set ..)) _ (List.length_set ..)) _ (List.length_set ..)) _ (List.length_set ..)) _ (List.length_set ..)) _ (List.length_set ..)) _ (List.length_set ..)) _ (List.length_set ..)) _ (List.length_set ..)) _ (List.length_set ..)) _ (List.length_set ..)) _ (List.length_set ..)) _ (List.length_set ..)) _ (List.length_set ..)) _ (List.length_set ..)) _ (List.length_set ..)) _ (List.length_set ..)) _ (List.length_set ..)) _ (List.length_set ..)) _ (List.length_set ..)) _ (List.length_set ..)) _ (List.length_set ..)) _ (List.length_set ..)) _ (List.length_set ..)) (c := 74) (n := 89) (by decide) rfl (by decide) (by decide)) (wa_74 _ _) ?_
                refine rb_iinc (lv' := [some (.ref 68), some (.int 48)]) rfl rfl ?_
                refine rb_goto ?_
                refine rn_step rfl ?_
                refine rb_iload rfl ?_
                refine rb_push ?_
                refine rb_cge (fun h => absurd h (by decide)) (fun _ => ?_)
                refine rb_aload rfl ?_
                refine rb_getf (v := .ref 74) rfl ?_
                refine rb_iload rfl ?_
                refine rb_aload rfl ?_
                refine rb_getf (v := .ref 69) rfl ?_
                refine rb_iload rfl ?_
                refine rb_iald rfl (by decide) (show _ = some (0) from rfl) ?_
                refine rb_iast rfl (by decide) (ok_lt (okL.sA (okL.sA (okL.sA (okL.sA (okL.sA (okL.sA (okL.sA (okL.sA (okL.sA (okL.sA (okL.sA (okL.sA (okL.sA (okL.sA (okL.sA (okL.sA (okL.sA (okL.sA (okL.sA (okL.sA (okL.sA (okL.sA (okL.sA (okL.sA (okL.sA (okL.sA (okL.sA (okL.sA (okL.sA (okL.sA (okL.sA (okL.sA (okL.sA (okL.sA (okL.sA (okL.sA (okL.sA (okL.sA (okL.sA (okL.sA (okL.sA (okL.sA (okL.sA (okL.sA (okL.sA (okL.sA (okL.sA (okL.sA s1_ok _ (List.length_set ..)) _ (List.length_set ..)) _ (List.length_set ..)) _ (List.length_set ..)) _ (List.length_set ..)) _ (List.length_set ..)) _ (List.length_set ..)) _ (List.length_set ..)) _ (List.length_set ..)) _ (List.length_set ..)) _ (List.length_set ..)) _ (List.length_set ..)) _ (List.length_set ..)) _ (List.length_set ..)) _ (List.length_set ..)) _ (List.length_set ..)) _ (List.length_set ..)) _ (List.length_set ..)) _ (List.length_set ..)) _ (List.length_set ..)) _ (List.length_set ..)) _ (List.length_set ..)) _ (List.length_set ..)) _ (List.length_set ..)) _ (List.length_set ..)) _ (List.length_set ..)) _ (List.length_set ..)) _ (List.length_set ..)) _ (List.length_set ..)) _ (List.length_set ..)) _ (List.length_set ..)) _ (List.length_set ..)) _ (List.length_set ..)) _ (List.length_set ..)) _ (List.length_set ..)) _ (List.length_set ..)) _ (List.length_set ..)) _ (List.length_set ..)) _ (List.length_set ..)) _ (List.length_set ..)) _ (List.length_set ..)) _ (List.length_set ..)) _ (List.length_set ..)) _ (List.length_set ..)) _ (List.length_set ..)) _ (List.length_set ..)) _ (List.length_set ..)) _ (List.length_set ..)) (c := 74) (n := 89) (by decide) rfl (by decide) (by decide)) (wa_74 _ _) ?_
                refine rb_iinc (lv' := [some (.ref 68), some (.int 49)]) rfl rfl ?_
                refine rb_goto ?_
                refine rn_step rfl ?_
                refine rb_iload rfl ?_
                refine rb_push ?_
                refine rb_cge (fun h => absurd h (by decide)) (fun _ => ?_)
                refine rb_aload rfl ?_
                refine rb_getf (v := .ref 74) rfl ?_
                refine rb_iload rfl ?_
                refine rb_aload rfl ?_
                refine rb_getf (v := .ref 69) rfl ?_
                refine rb_iload rfl ?_
                refine rb_iald rfl (by decide) (show _ = some (0) from rfl) ?_
                refine rb_iast rfl (by decide) (ok_lt (okL.sA (okL.sA (okL.sA (okL.sA (okL.sA (okL.sA (okL.sA (okL.sA (okL.sA (okL.sA (okL.sA (okL.sA (okL.sA (okL.sA (okL.sA (okL.sA (okL.sA (okL.sA (okL.sA (okL.sA (okL.sA (okL.sA (okL.sA (okL.sA (okL.sA (okL.sA (okL.sA (okL.sA (okL.sA (okL.sA (okL.sA (okL.sA (okL.sA (okL.sA (okL.sA (okL.sA (okL.sA (okL.sA (okL.sA (okL.sA (okL.sA (okL.sA (okL.sA (okL.sA (okL.sA (okL.sA (okL.sA (okL.sA (okL.sA s1_ok _ (List.length_set ..)) _ (List.length_set ..)) _ (List.length_set ..)) _ (List.length_set ..)) _ (List.length_set ..)) _ (List.length_set ..)) _ (List.length_set ..)) _ (List.length_set ..)) _ (List.length_set ..)) _ (List.length_set ..)) _ (List.length_set ..)) _ (List.length_set ..)) _ (List.length_set ..)) _ (List.length_set ..)) _ (List.length_set ..)) _ (List.length_set ..)) _ (List.length_set ..)) _ (List.length_set ..)) _ (List.length_set ..)) _ (List.length_set ..)) _ (List.length_set ..)) _ (List.length_set ..)) _ (List.length_set ..)) _ (List.length_set ..)) _ (List.length_set ..)) _ (List.length_set ..)) _ (List.length_set ..)) _ (List.length_set ..)) _ (List.length_set ..)) _ (List.length_set ..)) _ (List.length_set ..)) _ (List.length_set ..)) _ (List.length_set ..)) _ (List.length_set ..)) _ (List.length_set ..)) _ (List.length_set ..)) _ (List.length_set ..)) _ (List.length_set ..)) _ (List.length_set ..)) _ (List.length_set ..)) _ (List.length_set ..)) _ (List.length_set ..)) _ (List.length_set ..)) _ (List.length_set ..)) _ (List.length_set ..)) _ (List.length_set ..)) _ (List.length_set ..)) _ (List.length_set ..)) _ (List.length_set ..)) (c := 74) (n := 89) (by decide) rfl (by decide) (by decide)) (wa_74 _ _) ?_
                refine rb_iinc (lv' := [some (.ref 68), some (.int 50)]) rfl rfl ?_
                refine rb_goto ?_
                refine rn_step rfl ?_
                refine rb_iload rfl ?_
                refine rb_push ?_
                refine rb_cge (fun h => absurd h (by decide)) (fun _ => ?_)
                refine rb_aload rfl ?_
                refine rb_getf (v := .ref 74) rfl ?_
                refine rb_iload rfl ?_
                refine rb_aload rfl ?_
                refine rb_getf (v := .ref 69) rfl ?_
                refine rb_iload rfl ?_
                refine rb_iald rfl (by decide) (show _ = some (0) from rfl) ?_
                refine rb_iast rfl (by decide) (ok_lt (okL.sA (okL.sA (okL.sA (okL.sA (okL.sA (okL.sA (okL.sA (okL.sA (okL.sA (okL.sA (okL.sA (okL.sA (okL.sA (okL.sA (okL.sA (okL.sA (okL.sA (okL.sA (okL.sA (okL.sA (okL.sA (okL.sA (okL.sA (okL.sA (okL.sA (okL.sA (okL.sA (okL.sA (okL.sA (okL.sA (okL.sA (okL.sA (okL.sA (okL.sA (okL.sA (okL.sA (okL.sA (okL.sA (okL.sA (okL.sA (okL.sA (okL.sA (okL.sA (okL.sA (okL.sA (okL.sA (okL.sA (okL.sA (okL.sA (okL.sA s1_ok _ (List.length_set ..)) _ (List.length_set ..)) _ (List.length_set ..)) _ (List.length_set ..)) _ (List.length_set ..)) _ (List.length_set ..)) _ (List.length_set ..)) _ (List.length_set ..)) _ (List.length_set ..)) _ (List.length_set ..)) _ (List.length_set ..)) _ (List.length_set ..)) _ (List.length_set ..)) _ (List.length_set ..)) _ (List.length_set ..)) _ (List.length_set ..)) _ (List.length_set ..)) _ (List.length_set ..)) _ (List.length_set ..)) _ (List.length_set ..)) _ (List.length_set ..)) _ (List.length_set ..)) _ (List.length_set ..)) _ (List.length_set ..)) _ (List.length_set ..)) _ (List.length_set ..)) _ (List.length_set ..)) _ (List.length_set ..)) _ (List.length_set ..)) _ (List.length_set ..)) _ (List.length_set ..)) _ (List.length_set ..)) _ (List.length_set ..)) _ (List.length_set ..)) _ (List.length_set ..)) _ (List.length_set ..)) _ (List.length_set ..)) _ (List.length_set ..)) _ (List.length_set ..)) _ (List.length_set ..)) _ (List.length_set ..)) _ (List.length_set ..)) _ (List.length_set ..)) _ (List.length_set ..)) _ (List.length_set ..)) _ (List.length_set ..)) _ (List.length_set ..)) _ (List.length_set ..)) _ (List.length_set ..)) _ (List.length_set ..)) (c := 74) (n := 89) (by decide) rfl (by decide) (by decide)) (wa_74 _ _) ?_
                refine rb_iinc (lv' := [some (.ref 68), some (.int 51)]) rfl rfl ?_
                refine rb_goto ?_
                refine rn_step rfl ?_
                refine rb_iload rfl ?_
                refine rb_push ?_
                refine rb_cge (fun h => absurd h (by decide)) (fun _ => ?_)
                refine rb_aload rfl ?_
                refine rb_getf (v := .ref 74) rfl ?_
                refine rb_iload rfl ?_
                refine rb_aload rfl ?_
                refine rb_getf (v := .ref 69) rfl ?_
                refine rb_iload rfl ?_
                refine rb_iald rfl (by decide) (show _ = some (0) from rfl) ?_
                refine rb_iast rfl (by decide) (ok_lt (okL.sA (okL.sA (okL.sA (okL.sA (okL.sA (okL.sA (okL.sA (okL.sA (okL.sA (okL.sA (okL.sA (okL.sA (okL.sA (okL.sA (okL.sA (okL.sA (okL.sA (okL.sA (okL.sA (okL.sA (okL.sA (okL.sA (okL.sA (okL.sA (okL.sA (okL.sA (okL.sA (okL.sA (okL.sA (okL.sA (okL.sA (okL.sA (okL.sA (okL.sA (okL.sA (okL.sA (okL.sA (okL.sA (okL.sA (okL.sA (okL.sA (okL.sA (okL.sA (okL.sA (okL.sA (okL.sA (okL.sA (okL.sA (okL.sA (okL.sA (okL.sA s1_ok _ (List.length_set ..)) _ (List.length_set ..)) _ (List.length_set ..)) _ (List.length_set ..)) _ (List.length_set ..)) _ (List.length_set ..)) _ (List.length_set ..)) _ (List.length_set ..)) _ (List.length_set ..)) _ (List.length_set ..)) _ (List.length_set ..)) _ (List.length_set ..)) _ (List.length_set ..)) _ (List.length_set ..)) _ (List.length_set ..)) _ (List.length_set ..)) _ (List.length_set ..)) _ (List.length_set ..)) _ (List.length_set ..)) _ (List.length_set ..)) _ (List.length_set ..)) _ (List.length_set ..)) _ (List.length_set ..)) _ (List.length_set ..)) _ (List.length_set ..)) _ (List.length_set ..)) _ (List.length_set ..)) _ (List.length_set ..)) _ (List.length_set ..)) _ (List.length_set ..)) _ (List.length_set ..)) _ (List.length_set ..)) _ (List.length_set ..)) _ (List.length_set ..)) _ (List.length_set ..)) _ (List.length_set ..)) _ (List.length_set ..)) _ (List.length_set ..)) _ (List.length_set ..)) _ (List.length_set ..)) _ (List.length_set ..)) _ (List.length_set ..)) _ (List.length_set ..)) _ (List.length_set ..)) _ (List.length_set ..)) _ (List.length_set ..)) _ (List.length_set ..)) _ (List.length_set ..)) _ (List.length_set ..)) _ (List.length_set ..)) _ (List.length_set ..)) (c := 74) (n := 89) (by decide) rfl (by decide) (by decide)) (wa_74 _ _) ?_
                refine rb_iinc (lv' := [some (.ref 68), some (.int 52)]) rfl rfl ?_
                refine rb_goto ?_
                refine rn_step rfl ?_
                refine rb_iload rfl ?_
                refine rb_push ?_
                refine rb_cge (fun h => absurd h (by decide)) (fun _ => ?_)
                refine rb_aload rfl ?_
                refine rb_getf (v := .ref 74) rfl ?_
                refine rb_iload rfl ?_
                refine rb_aload rfl ?_
                refine rb_getf (v := .ref 69) rfl ?_
                refine rb_iload rfl ?_
                refine rb_iald rfl (by decide) (show _ = some (0) from rfl) ?_
                refine rb_iast rfl (by decide) (ok_lt (okL.sA (okL.sA (okL.sA (okL.sA (okL.sA (okL.sA (okL.sA (okL.sA (okL.sA (okL.sA (okL.sA (okL.sA (okL.sA (okL.sA (okL.sA (okL.sA (okL.sA (okL.sA (okL.sA (okL.sA (okL.sA (okL.sA (okL.sA (okL.sA (okL.sA (okL.sA (okL.sA (okL.sA (okL.sA (okL.sA (okL.sA (okL.sA (okL.sA (okL.sA (okL.sA (okL.sA (okL.sA (okL.sA (okL.sA (okL.sA (okL.sA (okL.sA (okL.sA (okL.sA (okL.sA (okL.sA (okL.sA (okL.sA (okL.sA (okL.sA (okL.sA (okL.sA s1_ok _ (List.length_set ..)) _ (List.length_set ..)) _ (List.length_set ..)) _ (List.length_set ..)) _ (List.length_set ..)) _ (List.length_set ..)) _ (List.length_set ..)) _ (List.length_set ..)) _ (List.length_set ..)) _ (List.length_set ..)) _ (List.length_set ..)) _ (List.length_set ..)) _ (List.length_set ..)) _ (List.length_set ..)) _ (List.length_set ..)) _ (List.length_set ..)) _ (List.length_set ..)) _ (List.length_set ..)) _ (List.length_set ..)) _ (List.length_set ..)) _ (List.length_set ..)) _ (List.length_set ..)) _ (List.length_set ..)) _ (List.length_set ..)) _ (List.length_set ..)) _ (List.length_set ..)) _ (List.length_set ..)) _ (List.length_set ..)) _ (List.length_set ..)) _ (List.length_set ..)) _ (List.length_set ..)) _ (List.length_set ..)) _ (List.length_set ..)) _ (List.length_set ..)) _ (List.length_set ..)) _ (List.length_set ..)) _ (List.length_set ..)) _ (List.length_set ..)) _ (List.length_set ..)) _ (List.length_set ..)) _ (List.length_set ..)) _ (List.length_set ..)) _ (List.length_set ..)) _ (List.length_set ..)) _ (List.length_set ..)) _ (List.length_set ..)) _ (List.length_set ..)) _ (List.length_set ..)) _ (List.length_set ..)) _ (List.length_set ..)) _ (List.length_set ..)) _ (List.length_set ..)) (c := 74) (n := 89) (by decide) rfl (by decide) (by decide)) (wa_74 _ _) ?_
                refine rb_iinc (lv' := [some (.ref 68), some (.int 53)]) rfl rfl ?_
                refine rb_goto ?_
                refine rn_step rfl ?_
                refine rb_iload rfl ?_
                refine rb_push ?_
                refine rb_cge (fun h => absurd h (by decide)) (fun _ => ?_)
                refine rb_aload rfl ?_
                refine rb_getf (v := .ref 74) rfl ?_
                refine rb_iload rfl ?_
                refine rb_aload rfl ?_
                refine rb_getf (v := .ref 69) rfl ?_
                refine rb_iload rfl ?_
                refine rb_iald rfl (by decide) (show _ = some (0) from rfl) ?_
                refine rb_iast rfl (by decide) (ok_lt (okL.sA (okL.sA (okL.sA (okL.sA (okL.sA (okL.sA (okL.sA (okL.sA (okL.sA (okL.sA (okL.sA (okL.sA (okL.sA (okL.sA (okL.sA (okL.sA (okL.sA (okL.sA (okL.sA (okL.sA (okL.sA (okL.sA (okL.sA (okL.sA (okL.sA (okL.sA (okL.sA (okL.sA (okL.sA (okL.sA (okL.sA (okL.sA (okL.sA (okL.sA (okL.sA (okL.sA (okL.sA (okL.sA (okL.sA (okL.sA (okL.sA (okL.sA (okL.sA (okL.sA (okL.sA (okL.sA (okL.sA (okL.sA (okL.sA (okL.sA (okL.sA (okL.sA (okL.sA s1_ok _ (List.length_set ..)) _ (List.length_set ..)) _ (List.length_set ..)) _ (List.length_set ..)) _ (List.length_set ..)) _ (List.length_set ..)) _ (List.length_set ..)) _ (List.length_set ..)) _ (List.length_set ..)) _ (List.length_set ..)) _ (List.length_set ..)) _ (List.length_set ..)) _ (List.length_set ..)) _ (List.length_set ..)) _ (List.length_set ..)) _ (List.length_set ..)) _ (List.length_set ..)) _ (List.length_set ..)) _ (List.length_set ..)) _ (List.length_set ..)) _ (List.length_set ..)) _ (List.length_set ..)) _ (List.length_set ..)) _ (List.length_set ..)) _ (List.length_set ..)) _ (List.length_set ..)) _ (List.length_set ..)) _ (List.length_set ..)) _ (List.length_set ..)) _ (List.length_set ..)) _ (List.length_set ..)) _ (List.length_set ..)) _ (List.length_set ..)) _ (List.length_set ..)) _ (List.length_set ..)) _ (List.length_set ..)) _ (List.length_set ..)) _ (List.length_set ..)) _ (List.length_set ..)) _ (List.length_set ..)) _ (List.length_set ..)) _ (List.length_set ..)) _ (List.length_set ..)) _ (List.length_set ..)) _ (List.length_set ..)) _ (List.length_set ..)) _ (List.length_set ..)) _ (List.length_set ..)) _ (List.length_set ..)) _ (List.length_set ..)) _ (List.length_set ..)) _ (List.length_set ..)) _ (List.length_set ..)) (c := 74) (n := 89) (by decide) rfl (by decide) (by decide)) (wa_74 _ _) ?_
                refine rb_iinc (lv' := [some (.ref 68), some (.int 54)]) rfl rfl ?_
                refine rb_goto ?_
                refine rn_step rfl ?_
                refine rb_iload rfl ?_
                refine rb_push ?_
                refine rb_cge (fun h => absurd h (by decide)) (fun _ => ?_)
                refine rb_aload rfl ?_
                refine rb_getf (v := .ref 74) rfl ?_
                refine rb_iload rfl ?_
                refine rb_aload rfl ?_
                refine rb_getf (v := .ref 69) rfl ?_
                refine rb_iload rfl ?_
                refine rb_iald rfl (by decide) (show _ = some (0) from rfl) ?_
                refine rb_iast rfl (by decide) (ok_lt (okL.sA (okL.sA (okL.sA (okL.sA (okL.sA (okL.sA (okL.sA (okL.sA (okL.sA (okL.sA (okL.sA (okL.sA (okL.sA (okL.sA (okL.sA (okL.sA (okL.sA (okL.sA (okL.sA (okL.sA (okL.sA (okL.sA (okL.sA (okL.sA (okL.sA (okL.sA (okL.sA (okL.sA (okL.sA (okL.sA (okL.sA (okL.sA (okL.sA (okL.sA (okL.sA (okL.sA (okL.sA (okL.sA (okL.sA (okL.sA (okL.sA (okL.sA (okL.sA (okL.sA (okL.sA (okL.sA (okL.sA (okL.sA (okL.sA (okL.sA (okL.sA (okL.sA (okL.sA (okL.sA s1_ok _ (List.length_set ..)) _ (List.length_set ..)) _ (List.length_set ..)) _ (List.length_set ..)) _ (List.length_set ..)) _ (List.length_set ..)) _ (List.length_set ..)) _ (List.length_set ..)) _ (List.length_set ..)) _ (List.length_set ..)) _ (List.length_set ..)) _ (List.length_set ..)) _ (List.length_set ..)) _ (List.length_set ..)) _ (List.length_set ..)) _ (List.length_set ..)) _ (List.length_set ..)) _ (List.length_set ..)) _ (List.length_set ..)) _ (List.length_set ..)) _ (List.length_set ..)) _ (List.length_set ..)) _ (List.length_set ..)) _ (List.length_set ..)) _ (List.length_set ..)) _ (List.length_set ..)) _ (List.length_set ..)) _ (List.length_set ..)) _ (List.length_set ..)) _ (List.length_set ..)) _ (List.length_set ..)) _ (List.length_set ..)) _ (List.length_set ..)) _ (List.length_set ..)) _ (List.length_set ..)) _ (List.length_set ..)) _ (List.length_set ..)) _ (List.length_set ..)) _ (List.length_set ..)) _ (List.length_set ..)) _ (List.length_set ..)) _ (List.length_set ..)) _ (List.length_set ..)) _ (List.length_set ..)) _ (List.length_set ..)) _ (List.length_set ..)) _ (List.length_set ..)) _ (List.length_set ..)) _ (List.length_set ..)) _ (List.length_set ..)) _ (List.length_set ..)) _ (List.length_set ..)) _ (List.length_set ..)) _ (List.length_set ..)) (c := 74) (n := 89) (by decide) rfl (by decide) (by decide)) (wa_74 _ _) ?_
                refine rb_iinc (lv' := [some (.ref 68), some (.int 55)]) rfl rfl ?_
                refine rb_goto ?_
                refine rn_step rfl ?_
                refine rb_iload rfl ?_
                refine rb_push ?_
                refine rb_cge (fun h => absurd h (by decide)) (fun _ => ?_)
                refine rb_aload rfl ?_
                refine rb_getf (v := .ref 74) rfl ?_
                refine rb_iload rfl ?_
                refine rb_aload rfl ?_
                refine rb_getf (v := .ref 69) rfl ?_
                refine rb_iload rfl ?_
                refine rb_iald rfl (by decide) (show _ = some (0) from rfl) ?_
                refine rb_iast rfl (by decide) (ok_lt (okL.sA (okL.sA (okL.sA (okL.sA (okL.sA (okL.sA (okL.sA (okL.sA (okL.sA (okL.sA (okL.sA (okL.sA (okL.sA (okL.sA (okL.sA (okL.sA (okL.sA (okL.sA (okL.sA (okL.sA (okL.sA (okL.sA (okL.sA (okL.sA (okL.sA (okL.sA (okL.sA (okL.sA (okL.sA (okL.sA (okL.sA (okL.sA (okL.sA (okL.sA (okL.sA (okL.sA (okL.sA (okL.sA (okL.sA (okL.sA (okL.sA (okL.sA (okL.sA (okL.sA (okL.sA (okL.sA (okL.sA (okL.sA (okL.sA (okL.sA (okL.sA (okL.sA (okL.sA (okL.sA (okL.sA s1_ok _ (List.length_set ..)) _ (List.length_set ..)) _ (List.length_set ..)) _ (List.length_set ..)) _ (List.length_set ..)) _ (List.length_set ..)) _ (List.length_set ..)) _ (List.length_set ..)) _ (List.length_set ..)) _ (List.length_set ..)) _ (List.length_set ..)) _ (List.length_set ..)) _ (List.length_set ..)) _ (List.length_set ..)) _ (List.length_set ..)) _ (List.length_set ..)) _ (List.length_set ..)) _ (List.length_set ..)) _ (List.length_set ..)) _ (List.length_set ..)) _ (List.length_set ..)) _ (List.length_set ..)) _ (List.length_set ..)) _ (List.length_set ..)) _ (List.length_set ..)) _ (List.length_set ..)) _ (List.length_set ..)) _ (List.length_set ..)) _ (List.length_set ..)) _ (List.length_set ..)) _ (List.length_set ..)) _ (List.length_set ..)) _ (List.length_set ..)) _ (List.length_set ..)) _ (List.length_set ..)) _ (List.length_set ..)) _ (List.length_set ..)) _ (List.length_set ..)) _ (List.length_set ..)) _ (List.length_set ..)) _ (List.length_set ..)) _ (List.length_set ..)) _ (List.length_set ..)) _ (List.length_set ..)) _ (List.length_set ..)) _ (List.length_set ..)) _ (List.length_set ..)) _ (List.length_set ..)) _ (List.length_set ..)) _ (List.length_set ..)) _ (List.length_set ..)) _ (List.length_set ..)) _ (List.length_set ..)) _ (List.length_set ..)) _ (List.length_set ..)) (c := 74) (n := 89) (by decide) rfl (by decide) (by decide)) (wa_74 _ _) ?_
                refine rb_iinc (lv' := [some (.ref 68), some (.int 56)]) rfl rfl ?_
                refine rb_goto ?_
                refine rn_step rfl ?_
                refine rb_iload rfl ?_
                refine rb_push ?_
                refine rb_cge (fun h => absurd h (by decide)) (fun _ => ?_)
                refine rb_aload rfl ?_
                refine rb_getf (v := .ref 74) rfl ?_
                refine rb_iload rfl ?_
                refine rb_aload rfl ?_
                refine rb_getf (v := .ref 69) rfl ?_
                refine rb_iload rfl ?_
                refine rb_iald rfl (by decide) (show _ = some (0) from rfl) ?_
                refine rb_iast rfl (by decide) (ok_lt (okL.sA (okL.sA (okL.sA (okL.sA (okL.sA (okL.sA (okL.sA (okL.sA (okL.sA (okL.sA (okL.sA (okL.sA (okL.sA (okL.sA (okL.sA (okL.sA (okL.sA (okL.sA (okL.sA (okL.sA (okL.sA (okL.sA (okL.sA (okL.sA (okL.sA (okL.sA (okL.sA (okL.sA (okL.sA (okL.sA (okL.sA (okL.sA (okL.sA (okL.sA (okL.sA (okL.sA (okL.sA (okL.sA (okL.sA (okL.sA (okL.sA (okL.sA (okL.sA (okL.sA (okL.sA (okL.sA (okL.sA (okL.sA (okL.sA (okL.sA (okL.sA (okL.sA (okL.sA (okL.sA (okL.sA (okL.sA s1_ok _ (List.length_set ..)) _ (List.length_set ..)) _ (List.length_set ..)) _ (List.length_set ..)) _ (List.length_set ..)) _ (List.length_set ..)) _ (List.length_set ..)) _ (List.length_set ..)) _ (List.length_set ..)) _ (List.length_set ..)) _ (List.length_set ..)) _ (List.length_set ..)) _ (List.length_set ..)) _ (List.length_set ..)) _ (List.length_set ..)) _ (List.length_set ..)) _ (List.length_set ..)) _ (List.length_set ..)) _ (List.length_set ..)) _ (List.length_set ..)) _ (List.length_set ..)) _ (List.length_set ..)) _ (List.length_set ..)) _ (List.length_set ..)) _ (List.length_set ..)) _ (List.length_set ..)) _ (List.length_set ..)) _ (List.length_set ..)) _ (List.length_set ..)) _ (List.length_set ..)) _ (List.length_set ..)) _ (List.length_set ..)) _ (List.length_set ..)) _ (List.length_set ..)) _ (List.length_set ..)) _ (List.length_set ..)) _ (List.length_set ..)) _ (List.length_set ..)) _ (List.length_set ..)) _ (List.length_set ..)) _ (List.length_set ..)) _ (List.length_set ..)) _ (List.length_set ..)) _ (List.length_set ..)) _ (List.length_set ..)) _ (List.length_set ..)) _ (List.length_set ..)) _ (List.length_set ..)) _ (List.length_set ..)) _ (List.length_set ..)) _ (List.length_set ..)) _ (List.length_set ..)) _ (List.length_set ..)) _ (List.length_set ..)) _ (List.length_set ..)) _ (List.length_set ..)) (c := 74) (n := 89) (by decide) rfl (by decide) (by decide)) (wa_74 _ _) ?_
                refine rb_iinc (lv' := [some (.ref 68), some (.int 57)]) rfl rfl ?_
                refine rb_goto ?_
                refine rn_step rfl ?_
                refine rb_iload rfl ?_
                refine rb_push ?_
                refine rb_cge (fun h => absurd h (by decide)) (fun _ => ?_)
                refine rb_aload rfl ?_
                refine rb_getf (v := .ref 74) rfl ?_
                refine rb_iload rfl ?_
                refine rb_aload rfl ?_
                refine rb_getf (v := .ref 69) rfl ?_
                refine rb_iload rfl ?_
                refine rb_iald rfl (by decide) (show _ = some (0) from rfl) ?_
                refine rb_iast rfl (by decide) (ok_lt (okL.sA (okL.sA (okL.sA (okL.sA (okL.sA (okL.sA (okL.sA (okL.sA (okL.sA (okL.sA (okL.sA (okL.sA (okL.sA (okL.sA (okL.sA (okL.sA (okL.sA (okL.sA (okL.sA (okL.sA (okL.sA (okL.sA (okL.sA (okL.sA (okL.sA (okL.sA (okL.sA (okL.sA (okL.sA (okL.sA (okL.sA (okL.sA (okL.sA (okL.sA (okL.sA (okL.sA (okL.sA (okL.sA (okL.sA (okL.sA (okL.sA (okL.sA (okL.sA (okL.sA (okL.sA (okL.sA (okL.sA (okL.sA (okL.sA (okL.sA (okL.sA (okL.sA (okL.sA (okL.sA (okL.sA (okL.sA (okL.sA s1_ok _ (List.length_set ..)) _ (List.length_set ..)) _ (List.length_set ..)) _ (List.length_set ..)) _ (List.length_set ..)) _ (List.length_set ..)) _ (List.length_set ..)) _ (List.length_set ..)) _ (List.length_set ..)) _ (List.length_set ..)) _ (List.length_set ..)) _ (List.length_set ..)) _ (List.length_set ..)) _ (List.length_set ..)) _ (List.length_set ..)) _ (List.length_set ..)) _ (List.length_set ..)) _ (List.length_set ..)) _ (List.length_set ..)) _ (List.length_set ..)) _ (List.length_set ..)) _ (List.length_set ..)) _ (List.length_set ..)) _ (List.length_set ..)) _ (List.length_set ..)) _ (List.length_set ..)) _ (List.length_set ..)) _ (List.length_set ..)) _ (List.length_set ..)) _ (List.length_set ..)) _ (List.length_set ..)) _ (List.length_set ..)) _ (List.length_set ..)) _ (List.length_set ..)) _ (List.length_set ..)) _ (List.length_set ..)) _ (List.length_set ..)) _ (List.length_set ..)) _ (List.length_set ..)) _ (List.length_set ..)) _ (List.length_set ..)) _ (List.length_set ..)) _ (List.length_set ..)) _ (List.length_set ..)) _ (List.length_set ..)) _ (List.length_set ..)) _ (List.length_set ..)) _ (List.length_set ..)) _ (List.length_set ..)) _ (List.length_set ..)) _ (List.length_set ..)) _ (List.length_set ..)) _ (List.length_set ..)) _ (List.length_set ..)) _ (List.length_set ..)) _ (List.length_set ..)) _ (List.length_set ..)) (c := 74) (n := 89) (by decide) rfl (by decide) (by decide)) (wa_74 _ _) ?_
                refine rb_iinc (lv' := [some (.ref 68), some (.int 58)]) rfl rfl ?_
                refine rb_goto ?_
                refine rn_step rfl ?_
                refine rb_iload rfl ?_
                refine rb_push ?_
                refine rb_cge (fun h => absurd h (by decide)) (fun _ => ?_)
                refine rb_aload rfl ?_
                refine rb_getf (v := .ref 74) rfl ?_
                refine rb_iload rfl ?_
                refine rb_aload rfl ?_
                refine rb_getf (v := .ref 69) rfl ?_
                refine rb_iload rfl ?_
                refine rb_iald rfl (by decide) (show _ = some (0) from rfl) ?_
                refine rb_iast rfl (by decide) (ok_lt (okL.sA (okL.sA (okL.sA (okL.sA (okL.sA (okL.sA (okL.sA (okL.sA (okL.sA (okL.sA (okL.sA (okL.sA (okL.sA (okL.sA (okL.sA (okL.sA (okL.sA (okL.sA (okL.sA (okL.sA (okL.sA (okL.sA (okL.sA (okL.sA (okL.sA (okL.sA (okL.sA (okL.sA (okL.sA (okL.sA (okL.sA (okL.sA (okL.sA (okL.sA (okL.sA (okL.sA (okL.sA (okL.sA (okL.sA (okL.sA (okL.sA (okL.sA (okL.sA (okL.sA (okL.sA (okL.sA (okL.sA (okL.sA (okL.sA (okL.sA (okL.sA (okL.sA (okL.sA (okL.sA (okL.sA (okL.sA (okL.sA (okL.sA s1_ok _ (List.length_set ..)) _ (List.length_set ..)) _ (List.length_set ..)) _ (List.length_set ..)) _ (List.length_set ..)) _ (List.length_set ..)) _ (List.length_set ..)) _ (List.length_set ..)) _ (List.length_set ..)) _ (List.length_set ..)) _ (List.length_set ..)) _ (List.length_set ..)) _ (List.length_set ..)) _ (List.length_set ..)) _ (List.length_set ..)) _ (List.length_set ..)) _ (List.length_set ..)) _ (List.length_set ..)) _ (List.length_set ..)) _ (List.length_set ..)) _ (List.length_set ..)) _ (List.length_set ..)) _ (List.length_set ..)) _ (List.length_set ..)) _ (List.length_set ..)) _ (List.length_set ..)) _ (List.length_set ..)) _ (List.length_set ..)) _ (List.length_set ..)) _ (List.length_set ..)) _ (List.length_set ..)) _ (List.length_set ..)) _ (List.length_set ..)) _ (List.length_set ..)) _ (List.length_set ..)) _ (List.length_set ..)) _ (List.length_set ..)) _ (List.length_set ..)) _ (List.length_set ..)) _ (List.length_set ..)) _ (List.length_set ..)) _ (List.length_set ..)) _ (List.length_set ..)) _ (List.length_set ..)) _ (List.length_set ..)) _ (List.length_set ..)) _ (List.length_set ..)) _ (List.length_set ..)) _ (List.length_set ..)) _ (List.length_set ..)) _ (List.length_set ..)) _ (List.length_set ..)) _ (List.length_set ..)) _ (List.length_set ..)) _ (List.length_set ..)) _ (List.length_set ..)) _ (List.length_set ..)) _ (List.length_set ..)) (c := 74) (n := 89) (by decide) rfl (by decide) (by decide)) (wa_74 _ _) ?_
                refine rb_iinc (lv' := [some (.ref 68), some (.int 59)]) rfl rfl ?_
                refine rb_goto ?_
                refine rn_step rfl ?_
                refine rb_iload rfl ?_
                refine rb_push ?_
                refine rb_cge (fun h => absurd h (by decide)) (fun _ => ?_)
                refine rb_aload rfl ?_
                refine rb_getf (v := .ref 74) rfl ?_
                refine rb_iload rfl ?_
                refine rb_aload rfl ?_
                refine rb_getf (v := .ref 69) rfl ?_
                refine rb_iload rfl ?_
                refine rb_iald rfl (by decide) (show _ = some (0) from rfl) ?_
                refine rb_iast rfl (by decide) (ok_lt (okL.sA (okL.sA (okL.sA (okL.sA (okL.sA (okL.sA (okL.sA (okL.sA (okL.sA (okL.sA (okL.sA (okL.sA (okL.sA (okL.sA (okL.sA (okL.sA (okL.sA (okL.sA (okL.sA (okL.sA (okL.sA (okL.sA (okL.sA (okL.sA (okL.sA (okL.sA (okL.sA (okL.sA (okL.sA (okL.sA (okL.sA (okL.sA (okL.sA (okL.sA (okL.sA (okL.sA (okL.sA (okL.sA (okL.sA (okL.sA (okL.sA (okL.sA (okL.sA (okL.sA (okL.sA (okL.sA (okL.sA (okL.sA (okL.sA (okL.sA (okL.sA (okL.sA (okL.sA (okL.sA (okL.sA (okL.sA (okL.sA (okL.sA (okL.sA s1_ok _ (List.length_set ..)) _ (List.length_set ..)) _ (List.length_set ..)) _ (List.length_set ..)) _ (List.length_set ..)) _ (List.length_set ..)) _ (List.length_set ..)) _ (List.length_set ..)) _ (List.length_set ..)) _ (List.length_set ..)) _ (List.length_set ..)) _ (List.length_set ..)) _ (List.length_set ..)) _ (List.length_set ..)) _ (List.length_set ..)) _ (List.length_set ..)) _ (List.length_set ..)) _ (List.length_set ..)) _ (List.length_set ..)) _ (List.length_set ..)) _ (List.length_set ..)) _ (List.length_set ..)) _ (List.length_set ..)) _ (List.length_set ..)) _ (List.length_set ..)) _ (List.length_set ..)) _ (List.length_set ..)) _ (List.length_set ..)) _ (List.length_set ..)) _ (List.length_set ..)) _ (List.length_set ..)) _ (List.length_set ..)) _ (List.length_set ..)) _ (List.length_set ..)) _ (List.length_set ..)) _ (List.length_set ..)) _ (List.length_set ..)) _ (List.length_set ..)) _ (List.length_set ..)) _ (List.length_set ..)) _ (List.length_set ..)) _ (List.length_set ..)) _ (List.length_set ..)) _ (List.length_set ..)) _ (List.length_set ..)) _ (List.length_set ..)) _ (List.length_set ..)) _ (List.length_set ..)) _ (List.length_set ..)) _ (List.length_set ..)) _ (List.length_set ..)) _ (List.length_set ..)) _ (List.length_set ..)) _ (List.length_set ..)) _ (List.length_set ..)) _ (List.length_set ..)) _ (List.length_set ..)) _ (List.length_set ..)) _ (List.length_set ..)) (c := 74) (n := 89) (by decide) rfl (by decide) (by decide)) (wa_74 _ _) ?_
                refine rb_iinc (lv' := [some (.ref 68), some (.int 60)]) rfl rfl ?_
                refine rb_goto ?_
                refine rn_step rfl ?_
                refine rb_iload rfl ?_
                refine rb_push ?_
                refine rb_cge (fun h => absurd h (by decide)) (fun _ => ?_)
                refine rb_aload rfl ?_
                refine rb_getf (v := .ref 74) rfl ?_
                refine rb_iload rfl ?_
                refine rb_aload rfl ?_
                refine rb_getf (v := .ref 69) rfl ?_
                refine rb_iload rfl ?_
                refine rb_iald rfl (by decide) (show _ = some (0) from rfl) ?_
                refine rb_iast rfl (by decide) (ok_lt (okL.sA (okL.sA (okL.sA (okL.sA (okL.sA (okL.sA (okL.sA (okL.sA (okL.sA (okL.sA (okL.sA (okL.sA (okL.sA (okL.sA (okL.sA (okL.sA (okL.sA (okL.sA (okL.sA (okL.sA (okL.sA (okL.sA (okL.sA (okL.sA (okL.sA (okL.sA (okL.sA (okL.sA (okL.sA (okL.sA (okL.sA (okL.sA (okL.sA (okL.sA (okL.sA (okL.sA (okL.sA (okL.sA (okL.sA (okL.sA (okL.sA (okL.sA (okL.sA (okL.sA (okL.sA (okL.sA (okL.sA (okL.sA (okL.sA (okL.sA (okL.sA (okL.sA (okL.sA (okL.sA (okL.sA (okL.sA (okL.sA (okL.sA (okL.sA (okL.sA s1_ok _ (List.length_set ..)) _ (List.length_set ..)) _ (List.length_set ..)) _ (List.length_set ..)) _ (List.length_set ..)) _ (List.length_set ..)) _ (List.length_set ..)) _ (List.length_set ..)) _ (List.length_set ..)) _ (List.length_set ..)) _ (List.length_set ..)) _ (List.length_set ..)) _ (List.length_set ..)) _ (List.length_set ..)) _ (List.length_set ..)) _ (List.length_set ..)) _ (List.length_set ..)) _ (List.length_set ..)) _ (List.length_set ..)) _ (List.length_set ..)) _ (List.length_set ..)) _ (List.length_set ..)) _ (List.length_set ..)) _ (List.length_set ..)) _ (List.length_set ..)) _ (List.length_set ..)) _ (List.length_set ..)) _ (List.length_set ..)) _ (List.length_set ..)) _ (List.length_set ..)) _ (List.length_set ..)) _ (List.length_set ..)) _ (List.length_set ..)) _ (List.length_set ..)) _ (List.length_set ..)) _ (List.length_set ..)) _ (List.length_set ..)) _ (List.length_set ..)) _ (List.length_set ..)) _ (List.length_set ..)) _ (List.length_set ..)) _ (List.length_set ..)) _ (List.length_set ..)) _ (List.length_set ..)) _ (List.length_set ..)) _ (List.length_set ..)) _ (List.length_set ..)) _ (List.length_set ..)) _ (List.length_set ..)) _ (List.length_set ..)) _ (List.length_set ..)) _ (List.length_set ..)) _ (List.length_set ..)) _ (List.length_set ..)) _ (List.length_set ..)) _ (List.length_set ..)) _ (List.length_set ..)) _ (List.length_set ..)) _ (List.length_set ..)) _ (List.length_set ..)) (c := 74) (n := 89) (by decide) rfl (by decide) (by decide)) (wa_74 _ _) ?_
                refine rb_iinc (lv' := [some (.ref 68), some (.int 61)]) rfl rfl ?_
                refine rb_goto ?_
                refine rn_step rfl ?_
                refine rb_iload rfl ?_
                refine rb_push ?_
                refine rb_cge (fun h => absurd h (by decide)) (fun _ => ?_)
                refine rb_aload rfl ?_
                refine rb_getf (v := .ref 74) rfl ?_
                refine rb_iload rfl ?_
                refine rb_aload rfl ?_
                refine rb_getf (v := .ref 69) rfl ?_
                refine rb_iload rfl ?_
                refine rb_iald rfl (by decide) (show _ = some (0) from rfl) ?_
                refine rb_iast rfl (by decide) (ok_lt (okL.sA (okL.sA (okL.sA (okL.sA (okL.sA (okL.sA (okL.sA (okL.sA (okL.sA (okL.sA (okL.sA (okL.sA (okL.sA (okL.sA (okL.sA (okL.sA (okL.sA (okL.sA (okL.sA (okL.sA (okL.sA (okL.sA (okL.sA (okL.sA (okL.sA (okL.sA (okL.sA (okL.sA (okL.sA (okL.sA (okL.sA (okL.sA (okL.sA (okL.sA (okL.sA (okL.sA (okL.sA (okL.sA (okL.sA (okL.sA (okL.sA (okL.sA (okL.sA (okL.sA (okL.sA (okL.sA (okL.sA (okL.sA (okL.sA (okL.sA (okL.sA (okL.sA (okL.sA (okL.sA (okL.sA (okL.sA (okL.sA (okL.sA (okL.sA (okL.sA (okL.sA s1_ok _ (List.length_set ..)) _ (List.length_set ..)) _ (List.length_set ..)) _ (List.length_set ..)) _ (List.length_set ..)) _ (List.length_set ..)) _ (List.length_set ..)) _ (List.length_set ..)) _ (List.length_set ..)) _ (List.length_set ..)) _ (List.length_set ..)) _ (List.length_set ..)) _ (List.length_set ..)) _ (List.length_set ..)) _ (List.length_set ..)) _ (List.length_set ..)) _ (List.length_set ..)) _ (List.length_set ..)) _ (List.length_set ..)) _ (List.length_set ..)) _ (List.length_set ..)) _ (List.length_set ..)) _ (List.length_set ..)) _ (List.length_set ..)) _ (List.length_set ..)) _ (List.length_set ..)) _ (List.length_set ..)) _ (List.length_set ..)) _ (List.length_set ..)) _ (List.length_set ..)) _ (List.length_set ..)) _ (List.length_set ..)) _ (List.length_set ..)) _ (List.length_set ..)) _ (List.length_set ..)) _ (List.length_set ..)) _ (List.length_set ..)) _ (List.length_set ..)) _ (List.length_set ..)) _ (List.length_set ..)) _ (List.length_set ..)) _ (List.length_set ..)) _ (List.length_set ..)) _ (List.length_set ..)) _ (List.length_set ..)) _ (List.length_set ..)) _ (List.length_set ..)) _ (List.length_set ..)) _ (List.length_set ..)) _ (List.length_set ..)) _ (List.length_set ..)) _ (List.length_set ..)) _ (List.length_set ..)) _ (List.length_set ..)) _ (List.length_set ..)) _ (List.length_set ..)) _ (List.length_set ..)) _ (List.length_set ..)) _ (List.length_set ..)) _ (List.length_set ..)) _ (List.length_set ..)) (c := 74) (n := 89) (by decide) rfl (by decide) (by decide)) (wa_74 _ _) ?_
                refine rb_iinc (lv' := [some (.ref 68), some (.int 62)]) rfl rfl ?_
                refine rb_goto ?_
                refine rn_step rfl ?_
                refine rb_iload rfl ?_
                refine rb_push ?_
                refine rb_cge (fun h => absurd h (by decide)) (fun _ => ?_)
                refine rb_aload rfl ?_
                refine rb_getf (v := .ref 74) rfl ?_
                refine rb_iload rfl ?_
                refine rb_aload rfl ?_
                refine rb_getf (v := .ref 69) rfl ?_
                refine rb_iload rfl ?_
                refine rb_iald rfl (by decide) (show _ = some (0) from rfl) ?_
                refine rb_iast rfl (by decide) (ok_lt (okL.sA (okL.sA (okL.sA (okL.sA (okL.sA (okL.sA (okL.sA (okL.sA (okL.sA (okL.sA (okL.sA (okL.sA (okL.sA (okL.sA (okL.sA (okL.sA (okL.sA (okL.sA (okL.sA (okL.sA (okL.sA (okL.sA (okL.sA (okL.sA (okL.sA (okL.sA (okL.sA (okL.sA (okL.sA (okL.sA (okL.sA (okL.sA (okL.sA (okL.sA (okL.sA (okL.sA (okL.sA (okL.sA (okL.sA (okL.sA (okL.sA (okL.sA (okL.sA (okL.sA (okL.sA (okL.sA (okL.sA (okL.sA (okL.sA (okL.sA (okL.sA (okL.sA (okL.sA (okL.sA (okL.sA (okL.sA (okL.sA (okL.sA (okL.sA (okL.sA (okL.sA (okL.sA s1_ok _ (List.length_set ..)) _ (List.length_set ..)) _ (List.length_set ..)) _ (List.length_set ..)) _ (List.length_set ..)) _ (List.length_set ..)) _ (List.length_set ..)) _ (List.length_set ..)) _ (List.length_set ..)) _ (List.length_set ..)) _ (List.length_set ..)) _ (List.length_set ..)) _ (List.length_set ..)) _ (List.length_set ..)) _ (List.length_set ..)) _ (List.length_set ..)) _ (List.length_set ..)) _ (List.length_set ..)) _ (List.length_set ..)) _ (List.length_set ..)) _ (List.length_set ..)) _ (List.length_set ..)) _ (List.length_set ..)) _ (List.length_set ..)) _ (List.length_set ..)) _ (List.length_set ..)) _ (List.length_set ..)) _ (List.length_set ..)) _ (List.length_set ..)) _ (List.length_set ..)) _ (List.length_set ..)) _ (List.length_set ..)) _ (List.length_set ..)) _ (List.length_set ..)) _ (List.length_set ..)) _ (List.length_set ..)) _ (List.length_set ..)) _ (List.length_set ..)) _ (List.length_set ..)) _ (List.length_set ..)) _ (List.length_set ..)) _ (List.length_set ..)) _ (List.length_set ..)) _ (List.length_set ..)) _ (List.length_set ..)) _ (List.length_set ..)) _ (List.length_set ..)) _ (List.length_set ..)) _ (List.length_set ..)) _ (List.length_set ..)) _ (List.length_set ..)) _ (List.length_set ..)) _ (List.length_set ..)) _ (List.length_set ..)) _ (List.length_set ..)) _ (List.length_set ..)) _ (List.length_set ..)) _ (List.length_set ..)) _ (List.length_set ..)) _ (List.length_set ..)) _ (List.length_set ..)) _ (List.length_set ..)) (c := 74) (n := 89) (by decide) rfl (by decide) (by decide)) (wa_74 _ _) ?_
                refine rb_iinc (lv' := [some (.ref 68), some (.int 63)]) rfl rfl ?_
                refine rb_goto ?_
                refine rn_step rfl ?_
                refine rb_iload rfl ?_
                refine rb_push ?_
                refine rb_cge (fun h => absurd h (by decide)) (fun _ => ?_)
                refine rb_aload rfl ?_
                refine rb_getf (v := .ref 74) rfl ?_
                refine rb_iload rfl ?_
                refine rb_aload rfl ?_
                refine rb_getf (v := .ref 69) rfl ?_
                refine rb_iload rfl ?_
                refine rb_iald rfl (by decide) (show _ = some (0) from rfl) ?_
                refine rb_iast rfl (by decide) (ok_lt (okL.sA (okL.sA (okL.sA (okL.sA (okL.sA (okL.sA (okL.sA (okL.sA (okL.sA (okL.sA (okL.sA (okL.sA (okL.sA (okL.sA (okL.sA (okL.sA (okL.sA (okL.sA (okL.sA (okL.sA (okL.sA (okL.sA (okL.sA (okL.sA (okL.sA (okL.sA (okL.sA (okL.sA (okL.sA (okL.sA (okL.sA (okL.sA (okL.sA (okL.sA (okL.sA (okL.sA (okL.sA (okL.sA (okL.sA (okL.sA (okL.sA (okL.sA (okL.sA (okL.sA (okL.sA (okL.sA (okL.sA (okL.sA (okL.sA (okL.sA (okL.sA (okL.sA (okL.sA (okL.sA (okL.sA (okL.sA (okL.sA (okL.sA (okL.sA (okL.sA (okL.sA (okL.sA (okL.sA s1_ok _ (List.length_set ..)) _ (List.length_set ..)) _ (List.length_set ..)) _ (List.length_set ..)) _ (List.length_set ..)) _ (List.length_set ..)) _ (List.length_set ..)) _ (List.length_set ..)) _ (List.length_set ..)) _ (List.length_set ..)) _ (List.length_set ..)) _ (List.length_set ..)) _ (List.length_set ..)) _ (List.length_set ..)) _ (List.length_set ..)) _ (List.length_set ..)) _ (List.length_set ..)) _ (List.length_set ..)) _ (List.length_set ..)) _ (List.length_set ..)) _ (List.length_set ..)) _ (List.length_set ..)) _ (List.length_set ..)) _ (List.length_set ..)) _ (List.length_set ..)) _ (List.length_set ..)) _ (List.length_set ..)) _ (List.length_set ..)) _ (List.length_set ..)) _ (List.length_set ..)) _ (List.length_set ..)) _ (List.length_set ..)) _ (List.length_set ..)) _ (List.length_set ..)) _ (List.length_set ..)) _ (List.length_set ..)) _ (List.length_set ..)) _ (List.length_set ..)) _ (List.length_set ..)) _ (List.length_set ..)) _ (List.length_set ..)) _ (List.length_set ..)) _ (List.length_set ..)) _ (List.length_set ..)) _ (List.length_set ..)) _ (List.length_set ..)) _ (List.length_set ..)) _ (List.length_set ..)) _ (List.length_set ..)) _ (List.length_set ..)) _ (List.length_set ..)) _ (List.length_set ..)) _ (List.length_set ..)) _ (List.length_set ..)) _ (List.length_set ..)) _ (List.length_set ..)) _ (List.length_set ..)) _ (List.length_set ..)) _ (List.length_set ..)) _ (List.length_set ..)) _ (List.length_set ..)) _ (List.length_set ..)) _ (List.length_set ..)) (c := 74) (n := 89) (by decide) rfl (by decide) (by decide)) (wa_74 _ _) ?_
                refine rb_iinc (lv' := [some (.ref 68), some (.int 64)]) rfl rfl ?_
                refine rb_goto ?_
                refine rn_step rfl ?_
                refine rb_iload rfl ?_
                refine rb_push ?_
                refine rb_cge (fun h => absurd h (by decide)) (fun _ => ?_)
                refine rb_aload rfl ?_
                refine rb_getf (v := .ref 74) rfl ?_
                refine rb_iload rfl ?_
                refine rb_aload rfl ?_
                refine rb_getf (v := .ref 69) rfl ?_
                refine rb_iload rfl ?_
                refine rb_iald rfl (by decide) (show _ = some (0) from rfl) ?_
                refine rb_iast rfl (by decide) (ok_lt (okL.sA (okL.sA (okL.sA (okL.sA (okL.sA (okL.sA (okL.sA (okL.sA (okL.sA (okL.sA (okL.sA (okL.sA (okL.sA (okL.sA (okL.sA (okL.sA (okL.sA (okL.sA (okL.sA (okL.sA (okL.sA (okL.sA (okL.sA (okL.sA (okL.sA (okL.sA (okL.sA (okL.sA (okL.sA (okL.sA (okL.sA (okL.sA (okL.sA (okL.sA (okL.sA (okL.sA (okL.sA (okL.sA (okL.sA (okL.sA (okL.sA (okL.sA (okL.sA (okL.sA (okL.sA (okL.sA (okL.sA (okL.sA (okL.sA (okL.sA (okL.sA (okL.sA (okL.sA (okL.sA (okL.sA (okL.sA (okL.sA (okL.sA (okL.sA (okL.sA (okL.sA (okL.sA (okL.sA (okL.sA s1_ok _ (List.length_set ..)) _ (List.length_set ..)) _ (List.length_set ..)) _ (List.length_set ..)) _ (List.length_set ..)) _ (List.length_set ..)) _ (List.length_set ..)) _ (List.length_set ..)) _ (List.length_set ..)) _ (List.length_set ..)) _ (List.length_set ..)) _ (List.length_set ..)) _ (List.length_set ..)) _ (List.length_set ..)) _ (List.length_set ..)) _ (List.length_set ..)) _ (List.length_set ..)) _ (List.length_set ..)) _ (List.length_set ..)) _ (List.length_set ..)) _ (List.length_set ..)) _ (List.length_set ..)) _ (List.length_set ..)) _ (List.length_set ..)) _ (List.length_set ..)) _ (List.length_set ..)) _ (List.length_set ..)) _ (List.length_set ..)) _ (List.length_set ..)) _ (List.length_set ..)) _ (List.length_set ..)) _ (List.length_set ..)) _ (List.length_set ..)) _ (List.length_set ..)) _ (List.length_set ..)) _ (List.length_set ..)) _ (List.length_set ..)) _ (List.length_set ..)) _ (List.length_set ..)) _ (List.length_set ..)) _ (List.length_set ..)) _ (List.length_set ..)) _ (List.length_set ..)) _ (List.length_set ..)) _ (List.length_set ..)) _ (List.length_set ..)) _ (List.length_set ..)) _ (List.length_set ..)) _ (List.length_set ..)) _ (List.length_set ..)) _ (List.length_set ..)) _ (List.length_set ..)) _ (List.length_set ..)) _ (List.length_set ..)) _ (List.length_set ..)) _ (List.length_set ..)) _ (List.length_set ..)) _ (List.length_set ..)) _ (List.length_set ..)) _ (List.length_set ..)) _ (List.length_set ..)) _ (List.length_set ..)) _ (List.length_set ..)) _ (List.length_set ..)) (c := 74) (n := 89) (by decide) rfl (by decide) (by decide)) (wa_74 _ _) ?_
                refine rb_iinc (lv' := [some (.ref 68), some (.int 65)]) rfl rfl ?_
                refine rb_goto ?_
                refine rn_step rfl ?_
                refine rb_iload rfl ?_
                refine rb_push ?_
                refine rb_cge (fun h => absurd h (by decide)) (fun _ => ?_)
                refine rb_aload rfl ?_
                refine rb_getf (v := .ref 74) rfl ?_
                refine rb_iload rfl ?_
                refine rb_aload rfl ?_
                refine rb_getf (v := .ref 69) rfl ?_
                refine rb_iload rfl ?_
                refine rb_iald rfl (by decide) (show _ = some (0) from rfl) ?_
                refine rb_iast rfl (by decide) (ok_lt (okL.sA (okL.sA (okL.sA (okL.sA (okL.sA (okL.sA (okL.sA (okL.sA (okL.sA (okL.sA (okL.sA (okL.sA (okL.sA (okL.sA (okL.sA (okL.sA (okL.sA (okL.sA (okL.sA (okL.sA (okL.sA (okL.sA (okL.sA (okL.sA (okL.sA (okL.sA (okL.sA (okL.sA (okL.sA (okL.sA (okL.sA (okL.sA (okL.sA (okL.sA (okL.sA (okL.sA (okL.sA (okL.sA (okL.sA (okL.sA (okL.sA (okL.sA (okL.sA (okL.sA (okL.sA (okL.sA (okL.sA (okL.sA (okL.sA (okL.sA (okL.sA (okL.sA (okL.sA (okL.sA (okL.sA (okL.sA (okL.sA (okL.sA (okL.sA (okL.sA (okL.sA (okL.sA (okL.sA (okL.sA (okL.sA s1_ok _ (List.length_set ..)) _ (List.length_set ..)) _ (List.length_set ..)) _ (List.length_set ..)) _ (List.length_set ..)) _ (List.length_set ..)) _ (List.length_set ..)) _ (List.length_set ..)) _ (List.length_set ..)) _ (List.length_set ..)) _ (List.length_set ..)) _ (List.length_set ..)) _ (List.length_set ..)) _ (List.length_set ..)) _ (List.length_set ..)) _ (List.length_set ..)) _ (List.length_set ..)) _ (List.length_set ..)) _ (List.length_set ..)) _ (List.length_set ..)) _ (List.length_set ..)) _ (List.length_set ..)) _ (List.length_set ..)) _ (List.length_set ..)) _ (List.length_set ..)) _ (List.length_set ..)) _ (List.length_set ..)) _ (List.length_set ..)) _ (List.length_set ..)) _ (List.length_set ..)) _ (List.length_set ..)) _ (List.length_set ..)) _ (List.length_set ..)) _ (List.length_set ..)) _ (List.length_set ..)) _ (List.length_set ..)) _ (List.length_set ..)) _ (List.length_set ..)) _ (List.length_set ..)) _ (List.length_set ..)) _ (List.length_set ..)) _ (List.length_set ..)) _ (List.length_set ..)) _ (List.length_set ..)) _ (List.length_set ..)) _ (List.length_set ..)) _ (List.length_set ..)) _ (List.length_set ..)) _ (List.length_set ..)) _ (List.length_set ..)) _ (List.length_set ..)) _ (List.length_set ..)) _ (List.length_set ..)) _ (List.length_set ..)) _ (List.length_set ..)) _ (List.length_set ..)) _ (List.length_set ..)) _ (List.length_set ..)) _ (List.length_set ..)) _ (List.length_set ..)) _ (List.length_set ..)) _ (List.length_set ..)) _ (List.length_set ..)) _ (List.length_set ..)) _ (List.length_set ..)) (c := 74) (n := 89) (by decide) rfl (by decide) (by decide)) (wa_74 _ _) ?_
                refine rb_iinc (lv' := [some (.ref 68), some (.int 66)]) rfl rfl ?_
                refine rb_goto ?_
                refine rn_step rfl ?_
                refine rb_iload rfl ?_
                refine rb_push ?_
                refine rb_cge (fun h => absurd h (by decide)) (fun _ => ?_)
                refine rb_aload rfl ?_
                refine rb_getf (v := .ref 74) rfl ?_
                refine rb_iload rfl ?_
                refine rb_aload rfl ?_
                refine rb_getf (v := .ref 69) rfl ?_
                refine rb_iload rfl ?_
                refine rb_iald rfl (by decide) (show _ = some (0) from rfl) ?_
                refine rb_iast rfl (by decide) (ok_lt (okL.sA (okL.sA (okL.sA (okL.sA (okL.sA (okL.sA (okL.sA (okL.sA (okL.sA (okL.sA (okL.sA (okL.sA (okL.sA (okL.sA (okL.sA (okL.sA (okL.sA (okL.sA (okL.sA (okL.sA (okL.sA (okL.sA (okL.sA (okL.sA (okL.sA (okL.sA (okL.sA (okL.sA (okL.sA (okL.sA (okL.sA (okL.sA (okL.sA (okL.sA (okL.sA (okL.sA (okL.sA (okL.sA (okL.sA (okL.sA (okL.sA (okL.sA (okL.sA (okL.sA (okL.sA (okL.sA (okL.sA (okL.sA (okL.sA (okL.sA (okL.sA (okL.sA (okL.sA (okL.sA (okL.sA (okL.sA (okL.sA (okL.sA (okL.sA (okL.sA (okL.sA (okL.sA (okL.sA (okL.sA (okL.sA (okL.sA s1_ok _ (List.length_set ..)) _ (List.length_set ..)) _ (List.length_set ..)) _ (List.length_set ..)) _ (List.length_set ..)) _ (List.length_set ..)) _ (List.length_set ..)) _ (List.length_set ..)) _ (List.length_set ..)) _ (List.length_set ..)) _ (List.length_set ..)) _ (List.length_set ..)) _ (List.length_set ..)) _ (List.length_set ..)) _ (List.length_set ..)) _ (List.length_set ..)) _ (List.length_set ..)) _ (List.length_set ..)) _ (List.length_set ..)) _ (List.length_set ..)) _ (List.length_set ..)) _ (List.length_set ..)) _ (List.length_set ..)) _ (List.length_set ..)) _ (List.length_set ..)) _ (List.length_set ..)) _ (List.length_set ..)) _ (List.length_set ..)) _ (List.length_set ..)) _ (List.length_set ..)) _ (List.length_set ..)) _ (List.length_set ..)) _ (List.length_set ..)) _ (List.length_set ..)) _ (List.length_set ..)) _ (List.length_set ..)) _ (List.length_set ..)) _ (List.length_set ..)) _ (List.length_set ..)) _ (List.length_set ..)) _ (List.length_set ..)) _ (List.length_set ..)) _ (List.length_set ..)) _ (List.length_set ..)) _ (List.length_set ..)) _ (List.length_set ..)) _ (List.length_set ..)) _ (List.length_set ..)) _ (List.length_set ..)) _ (List.length_set ..)) _ (List.length_set ..)) _ (List.length_set ..)) _ (List.length_set ..)) _ (List.length_set ..)) _ (List.length_set ..)) _ (List.length_set ..)) _ (List.length_set ..)) _ (List.length_set ..)) _ (List.length_set ..)) _ (List.length_set ..)) _ (List.length_set ..)) _ (List.length_set ..)) _ (List.length_set ..)) _ (List.length_set ..)) _ (List.length_set ..)) _ (List.length_set ..)) (c := 74) (n := 89) (by decide) rfl (by decide) (by decide)) (wa_74 _ _) ?_
                refine rb_iinc (lv' := [some (.ref 68), some (.int 67)]) rfl rfl ?_
                refine rb_goto ?_
                refine rn_step rfl ?_
                refine rb_iload rfl ?_
                refine rb_push ?_
                refine rb_cge (fun h => absurd h (by decide)) (fun _ => ?_)
                refine rb_aload rfl ?_
                refine rb_getf (v := .ref 74) rfl ?_
                refine rb_iload rfl ?_
                refine rb_aload rfl ?_
                refine rb_getf (v := .ref 69) rfl ?_
                refine rb_iload rfl ?_
                refine rb_iald rfl (by decide) (show _ = some (0) from rfl) ?_
                refine rb_iast rfl (by decide) (ok_lt (okL.sA (okL.sA (okL.sA (okL.sA (okL.sA (okL.sA (okL.sA (okL.sA (okL.sA (okL.sA (okL.sA (okL.sA (okL.sA (okL.sA (okL.sA (okL.sA (okL.sA (okL.sA (okL.sA (okL.sA (okL.sA (okL.sA (okL.sA (okL.sA (okL.sA (okL.sA (okL.sA (okL.sA (okL.sA (okL.sA (okL.sA (okL.sA (okL.sA (okL.sA (okL.sA (okL.sA (okL.sA (okL.sA (okL.sA (okL.sA (okL.sA (okL.sA (okL.sA (okL.sA (okL.sA (okL.sA (okL.sA (okL.sA (okL.sA (okL.sA (okL.sA (okL.sA (okL.sA (okL.sA (okL.sA (okL.sA (okL.sA (okL.sA (okL.sA (okL.sA (okL.sA (okL.sA (okL.sA (okL.sA (okL.sA (okL.sA (okL.sA s1_ok _ (List.length_set ..)) _ (List.length_set ..)) _ (List.length_set ..)) _ (List.length_set ..)) _ (List.length_set ..)) _ (List.length_set ..)) _ (List.length_set ..)) _ (List.length_set ..)) _ (List.length_set ..)) _ (List.length_set ..)) _ (List.length_set ..)) _ (List.length_set ..)) _ (List.length_set ..)) _ (List.length_set ..)) _ (List.length_set ..)) _ (List.length_set ..)) _ (List.length_set ..)) _ (List.length_set ..)) _ (List.length_set ..)) _ (List.length_set ..)) _ (List.length_set ..)) _ (List.length_set ..)) _ (List.length_set ..)) _ (List.length_set ..)) _ (List.length_set ..)) _ (List.length_set ..)) _ (List.length_set ..)) _ (List.length_set ..)) _ (List.length_set ..)) _ (List.length_set ..)) _ (List.length_set ..)) _ (List.length_set ..)) _ (List.length_set ..)) _ (List.length_set ..)) _ (List.length_set ..)) _ (List.length_set ..)) _ (List.length_set ..)) _ (List.length_set ..)) _ (List.length_set ..)) _ (List.length_set ..)) _ (List.length_set ..)) _ (List.length_set ..)) _ (List.length_set ..)) _ (List.length_set ..)) _ (List.length_set ..)) _ (List.length_set ..)) _ (List.length_set ..)) _ (List.length_set ..)) _ (List.length_set ..)) _ (List.length_set ..)) _ (List.length_set ..)) _ (List.length_set ..)) _ (List.length_set ..)) _ (List.length_set ..)) _ (List.length_set ..)) _ (List.length_set ..)) _ (List.length_set ..)) _ (List.length_set ..)) _ (List.length_set ..)) _ (List.length_set ..)) _ (List.length_set ..)) _ (List.length_set ..)) _ (List.length_set ..)) _ (List.length_set ..)) _ (List.length_set ..)) _ (List.length_set ..)) _ (List.length_set ..)) (c := 74) (n := 89) (by decide) rfl (by decide) (by decide)) (wa_74 _ _) ?_
                refine rb_iinc (lv' := [some (.ref 68), some (.int 68)]) rfl rfl ?_
                refine rb_goto ?_
                refine rn_step rfl ?_
                refine rb_iload rfl ?_
                refine rb_push ?_
                refine rb_cge (fun h => absurd h (by decide)) (fun _ => ?_)
                refine rb_aload rfl ?_
                refine rb_getf (v := .ref 74) rfl ?_
                refine rb_iload rfl ?_
                refine rb_aload rfl ?_
                refine rb_getf (v := .ref 69) rfl ?_
                refine rb_iload rfl ?_
                refine rb_iald rfl (by decide) (show _ = some (0) from rfl) ?_
                refine rb_iast rfl (by decide) (ok_lt (okL.sA (okL.sA (okL.sA (okL.sA (okL.sA (okL.sA (okL.sA (okL.sA (okL.sA (okL.sA (okL.sA (okL.sA (okL.sA (okL.sA (okL.sA (okL.sA (okL.sA (okL.sA (okL.sA (okL.sA (okL.sA (okL.sA (okL.sA (okL.sA (okL.sA (okL.sA (okL.sA (okL.sA (okL.sA (okL.sA (okL.sA (okL.sA (okL.sA (okL.sA (okL.sA (okL.sA (okL.sA (okL.sA (okL.sA (okL.sA (okL.sA (okL.sA (okL.sA (okL.sA (okL.sA (okL.sA (okL.sA (okL.sA (okL.sA (okL.sA (okL.sA (okL.sA (okL.sA (okL.sA (okL.sA (okL.sA (okL.sA (okL.sA (okL.sA (okL.sA (okL.sA (okL.sA (okL.sA (okL.sA (okL.sA (okL.sA (okL.sA (okL.sA s1_ok _ (List.length_set ..)) _ (List.length_set ..)) _ (List.length_set ..)) _ (List.length_set ..)) _ (List.length_set ..)) _ (List.length_set ..)) _ (List.length_set ..)) _ (List.length_set ..)) _ (List.length_set ..)) _ (List.length_set ..)) _ (List.length_set ..)) _ (List.length_set ..)) _ (List.length_set ..)) _ (List.length_set ..)) _ (List.length_set ..)) _ (List.length_set ..)) _ (List.length_set ..)) _ (List.length_set ..)) _ (List.length_set ..)) _ (List.length_set ..)) _ (List.length_set ..)) _ (List.length_set ..)) _ (List.length_set ..)) _ (List.length_set ..)) _ (List.length_set ..)) _ (List.length_set ..)) _ (List.length_set ..)) _ (List.length_set ..)) _ (List.length_set ..)) _ (List.length_set ..)) _ (List.length_set ..)) _ (List.length_set ..)) _ (List.length_set ..)) _ (List.length_set ..)) _ (List.length_set ..)) _ (List.length_set ..)) _ (List.length_set ..)) _ (List.length_set ..)) _ (List.length_set ..)) _ (List.length_set ..)) _ (List.length_set ..)) _ (List.length_set ..)) _ (List.length_set ..)) _ (List.length_set ..)) _ (List.length_set ..)) _ (List.length_set ..)) _ (List.length_set ..)) _ (List.length_set ..)) _ (List.length_set ..)) _ (List.length_set ..)) _ (List.length_set ..)) _ (List.length_set ..)) _ (List.length_set ..)) _ (List.length_set ..)) _ (List.length_set ..)) _ (List.length_set ..)) _ (List.length_set ..)) _ (List.length_set ..)) _ (List.length_set ..)) _ (List.length_set ..)) _ (List.length_set ..)) _ (List.length_set ..)) _ (List.length_set ..)) _ (List.length_set ..)) _ (List.length_set ..)) _ (List.length_set ..)) _ (List.length_set ..)) _ (List.length_set ..)) (c := 74) (n := 89) (by decide) rfl (by decide) (by decide)) (wa_74 _ _) ?_
                refine rb_iinc (lv' := [some (.ref 68), some (.int 69)]) rfl rfl ?_
                refine rb_goto ?_
                refine rn_step rfl ?_
                refine rb_iload rfl ?_
                refine rb_push ?_
                refine rb_cge (fun h => absurd h (by decide)) (fun _ => ?_)
                refine rb_aload rfl ?_
                refine rb_getf (v := .ref 74) rfl ?_
                refine rb_iload rfl ?_
                refine rb_aload rfl ?_
                refine rb_getf (v := .ref 69) rfl ?_
                refine rb_iload rfl ?_
                refine rb_iald rfl (by decide) (show _ = some (0) from rfl) ?_
                refine rb_iast rfl (by decide) (ok_lt (okL.sA (okL.sA (okL.sA (okL.sA (okL.sA (okL.sA (okL.sA (okL.sA (okL.sA (okL.sA (okL.sA (okL.sA (okL.sA (okL.sA (okL.sA (okL.sA (okL.sA (okL.sA (okL.sA (okL.sA (okL.sA (okL.sA (okL.sA (okL.sA (okL.sA (okL.sA (okL.sA (okL.sA (okL.sA (okL.sA (okL.sA (okL.sA (okL.sA (okL.sA (okL.sA (okL.sA (okL.sA (okL.sA (okL.sA (okL.sA (okL.sA (okL.sA (okL.sA (okL.sA (okL.sA (okL.sA (okL.sA (okL.sA (okL.sA (okL.sA (okL.sA (okL.sA (okL.sA (okL.sA (okL.sA (okL.sA (okL.sA (okL.sA (okL.sA (okL.sA (okL.sA (okL.sA (okL.sA (okL.sA (okL.sA (okL.sA (okL.sA (okL.sA (okL.sA s1_ok _ (List.length_set ..)) _ (List.length_set ..)) _ (List.length_set ..)) _ (List.length_set ..)) _ (List.length_set ..)) _ (List.length_set ..)) _ (List.length_set ..)) _ (List.length_set ..)) _ (List.length_set ..)) _ (List.length_set ..)) _ (List.length_set ..)) _ (List.length_set ..)) _ (List.length_set ..)) _ (List.length_set ..)) _ (List.length_set ..)) _ (List.length_set ..)) _ (List.length_set ..)) _ (List.length_set ..)) _ (List.length_set ..)) _ (List.length_set ..)) _ (List.length_set ..)) _ (List.length_set ..)) _ (List.length_set ..)) _ (List.length_set ..)) _ (List.length_set ..)) _ (List.length_set ..)) _ (List.length_set ..)) _ (List.length_set ..)) _ (List.length_set ..)) _ (List.length_set ..)) _ (List.length_set ..)) _ (List.length_set ..)) _ (List.length_set ..)) _ (List.length_set ..)) _ (List.length_set ..)) _ (List.length_set ..)) _ (List.length_set ..)) _ (List.length_set ..)) _ (List.length_set ..)) _ (List.length_set ..)) _ (List.length_set ..)) _ (List.length_set ..)) _ (List.length_set ..)) _ (List.length_set ..)) _ (List.length_set ..)) _ (List.length_set ..)) _ (List.length_set ..)) _ (List.length_set ..)) _ (List.length_set ..)) _ (List.length_set ..)) _ (List.length_set ..)) _ (List.length_set ..)) _ (List.length_set ..)) _ (List.length_set ..)) _ (List.length_set ..)) _ (List.length_set ..)) _ (List.length_set ..)) _ (List.length_set ..)) _ (List.length_set ..)) _ (List.length_set ..)) _ (List.length_set ..)) _ (List.length_set ..)) _ (List.length_set ..)) _ (List.length_set ..)) _ (List.length_set ..)) _ (List.length_set ..)) _ (List.length_set ..)) _ (List.length_set ..)) _ (List.length_set ..)) (c := 74) (n := 89) (by decide) rfl (by decide) (by decide)) (wa_74 _ _) ?_
                refine rb_iinc (lv' := [some (.ref 68), some (.int 70)]) rfl rfl ?_
                refine rb_goto ?_
                refine rn_step rfl ?_
                refine rb_iload rfl ?_
                refine rb_push ?_
                refine rb_cge (fun h => absurd h (by decide)) (fun _ => ?_)
                refine rb_aload rfl ?_
                refine rb_getf (v := .ref 74) rfl ?_
                refine rb_iload rfl ?_
                refine rb_aload rfl ?_
                refine rb_getf (v := .ref 69) rfl ?_
                refine rb_iload rfl ?_
                refine rb_iald rfl (by decide) (show _ = some (0) from rfl) ?_
                refine rb_iast rfl (by decide) (ok_lt (okL.sA (okL.sA (okL.sA (okL.sA (okL.sA (okL.sA (okL.sA (okL.sA (okL.sA (okL.sA (okL.sA (okL.sA (okL.sA (okL.sA (okL.sA (okL.sA (okL.sA (okL.sA (okL.sA (okL.sA (okL.sA (okL.sA (okL.sA (okL.sA (okL.sA (okL.sA (okL.sA (okL.sA (okL.sA (okL.sA (okL.sA (okL.sA (okL.sA (okL.sA (okL.sA (okL.sA (okL.sA (okL.sA (okL.sA (okL.sA (okL.sA (okL.sA (okL.sA (okL.sA (okL.sA (okL.sA (okL.sA (okL.sA (okL.sA (okL.sA (okL.sA (okL.sA (okL.sA (okL.sA (okL.sA (okL.sA (okL.sA (okL.sA (okL.sA (okL.sA (okL.sA (okL.sA (okL.sA (okL.sA (okL.sA (okL.sA (okL.sA (okL.sA (okL.sA (okL.sA s1_ok _ (List.length_set ..)) _ (List.length_set ..)) _ (List.length_set ..)) _ (List.length_set ..)) _ (List.length_set ..)) _ (List.length_set ..)) _ (List.length_set ..)) _ (List.length_set ..)) _ (List.length_set ..)) _ (List.length_set ..)) _ (List.length_set ..)) _ (List.length_set ..)) _ (List.length_set ..)) _ (List.length_set ..)) _ (List.length_set ..)) _ (List.length_set ..)) _ (List.length_set ..)) _ (List.length_set ..)) _ (List.length_set ..)) _ (List.length_set ..)) _ (List.length_set ..)) _ (List.length_set ..)) _ (List.length_set ..)) _ (List.length_set ..)) _ (List.length_set ..)) _ (List.length_set ..)) _ (List.length_set ..)) _ (List.length_set ..)) _ (List.length_set ..)) _ (List.length_set ..)) _ (List.length_set ..)) _ (List.length_set ..)) _ (List.length_set ..)) _ (List.length_set ..)) _ (List.length_set ..)) _ (List.length_set ..)) _ (List.length_set ..)) _ (List.length_set ..)) _ (List.length_set ..)) _ (List.length_set ..)) _ (List.length_set ..)) _ (List.length_set ..)) _ (List.length_set ..)) _ (List.length_set ..)) _ (List.length_set ..)) _ (List.length_set ..)) _ (List.length_set ..)) _ (List.length_set ..)) _ (List.length_set ..)) _ (List.length_set ..)) _ (List.length_set ..)) _ (List.length_set ..)) _ (List.length_set ..)) _ (List.length_set ..)) _ (List.length_set ..)) _ (List.length_set ..)) _ (List.length_set ..)) _ (List.length_set ..)) _ (List.length_set ..)) _ (List.length_set ..)) _ (List.length_set ..)) _ (List.length_set ..)) _ (List.length_set ..)) _ (List.length_set ..)) _ (List.length_set ..)) _ (List.length_set ..)) _ (List.length_set ..)) _ (List.length_set ..)) _ (List.length_set ..)) _ (List.length_set ..)) (c := 74) (n := 89) (by decide) rfl (by decide) (by decide)) (wa_74 _ _) ?_
                refine rb_iinc (lv' := [some (.ref 68), some (.int 71)]) rfl rfl ?_
                refine rb_goto ?_
                refine rn_step rfl ?_
                refine rb_iload rfl ?_
                refine rb_push ?_
                refine rb_cge (fun h => absurd h (by decide)) (fun _ => ?_)
                refine rb_aload rfl ?_
                refine rb_getf (v := .ref 74) rfl ?_
                refine rb_iload rfl ?_
                refine rb_aload rfl ?_
                refine rb_getf (v := .ref 69) rfl ?_
                refine rb_iload rfl ?_
                refine rb_iald rfl (by decide) (show _ = some (0) from rfl) ?_
                refine rb_iast rfl (by decide) (ok_lt (okL.sA (okL.sA (okL.sA (okL.sA (okL.sA (okL.sA (okL.sA (okL.sA (okL.sA (okL.sA (okL.sA (okL.sA (okL.sA (okL.sA (okL.sA (okL.sA (okL.sA (okL.sA (okL.sA (okL.sA (okL.sA (okL.sA (okL.sA (okL.sA (okL.sA (okL.sA (okL.sA (okL.sA (okL.sA (okL.sA (okL.sA (okL.sA (okL.sA (okL.sA (okL.sA (okL.sA (okL.sA (okL.sA (okL.sA (okL.sA (okL.sA (okL.sA (okL.sA (okL.sA (okL.sA (okL.sA (okL.sA (okL.sA (okL.sA (okL.sA (okL.sA (okL.sA (okL.sA (okL.sA (okL.sA (okL.sA (okL.sA (okL.sA (okL.sA (okL.sA (okL.sA (okL.sA (okL.sA (okL.sA (okL.sA (okL.sA (okL.sA (okL.sA (okL.sA (okL.sA (okL.sA s1_ok _ (List.length_set ..)) _ (List.length_set ..)) _ (List.length_set ..)) _ (List.length_set ..)) _ (List.length_set ..)) _ (List.length_set ..)) _ (List.length_set ..)) _ (List.length_set ..)) _ (List.length_set ..)) _ (List.length_set ..)) _ (List.length_set ..)) _ (List.length_set ..)) _ (List.length_set ..)) _ (List.length_set ..)) _ (List.length_set ..)) _ (List.length_set ..)) _ (List.length_set ..)) _ (List.length_set ..)) _ (List.length_set ..)) _ (List.length_set ..)) _ (List.length_set ..)) _ (List.length_set ..)) _ (List.length_set ..)) _ (List.length_set ..)) _ (List.length_set ..)) _ (List.length_set ..)) _ (List.length_set ..)) _ (List.length_set ..)) _ (List.length_set ..)) _ (List.length_set ..)) _ (List.length_set ..)) _ (List.length_set ..)) _ (List.length_set ..)) _ (List.length_set ..)) _ (List.length_set ..)) _ (List.length_set ..)) _ (List.length_set ..)) _ (List.length_set ..)) _ (List.length_set ..)) _ (List.length_set ..)) _ (List.length_set ..)) _ (List.length_set ..)) _ (List.length_set ..)) _ (List.length_set ..)) _ (List.length_set ..)) _ (List.length_set ..)) _ (List.length_set ..)) _ (List.length_set ..)) _ (List.length_set ..)) _ (List.length_set ..)) _ (List.length_set ..)) _ (List.length_set ..)) _ (List.length_set ..)) _ (List.length_set ..)) _ (List.length_set ..)) _ (List.length_set ..)) _ (List.length_set ..)) _ (List.length_set ..)) _ (List.length_set ..)) _ (List.length_set ..)) _ (List.length_set ..)) _ (List.length_set ..)) _ (List.length_set ..)) _ (List.length_set ..)) _ (List.length_set ..)) _ (List.length_set ..)) _ (List.length_set ..)) _ (List.length_set ..)) _ (List.length_set ..)) _ (List.length_set ..)) _ (List.length_set ..)) (c := 74) (n := 89) (by decide) rfl (by decide) (by decide)) (wa_74 _ _) ?_
                refine rb_iinc (lv' := [some (.ref 68), some (.int 72)]) rfl rfl ?_
                refine rb_goto ?_
                refine rn_step rfl ?_
                refine rb_iload rfl ?_
                refine rb_push ?_
                refine rb_cge (fun h => absurd h (by decide)) (fun _ => ?_)
                refine rb_aload rfl ?_
                refine rb_getf (v := .ref 74) rfl ?_
                refine rb_iload rfl ?_
                refine rb_aload rfl ?_
                refine rb_getf (v := .ref 69) rfl ?_
                refine rb_iload rfl ?_
                refine rb_iald rfl (by decide) (show _ = some (0) from rfl) ?_
                refine rb_iast rfl (by decide) (ok_lt (okL.sA (okL.sA (okL.sA (okL.sA (okL.sA (okL.sA (okL.sA (okL.sA (okL.sA (okL.sA (okL.sA (okL.sA (okL.sA (okL.sA (okL.sA (okL.sA (okL.sA (okL.sA (okL.sA (okL.sA (okL.sA (okL.sA (okL.sA (okL.sA (okL.sA (okL.sA (okL.sA (okL.sA (okL.sA (okL.sA (okL.sA (okL.sA (okL.sA (okL.sA (okL.sA (okL.sA (okL.sA (okL.sA (okL.sA (okL.sA (okL.sA (okL.sA (okL.sA (okL.sA (okL.sA (okL.sA (okL.sA (okL.sA (okL.sA (okL.sA (okL.sA (okL.sA (okL.sA (okL.sA (okL.sA (okL.sA (okL.sA (okL.sA (okL.sA (okL.sA (okL.sA (okL.sA (okL.sA (okL.sA (okL.sA (okL.sA (okL.sA (okL.sA (okL.sA (okL.sA (okL.sA (okL.sA s1_ok _ (List.length_set ..)) _ (List.length_set ..)) _ (List.length_set ..)) _ (List.length_set ..)) _ (List.length_set ..)) _ (List.length_set ..)) _ (List.length_set ..)) _ (List.length_set ..)) _ (List.length_set ..)) _ (List.length_set ..)) _ (List.length_set ..)) _ (List.length_set ..)) _ (List.length_set ..)) _ (List.length_set ..)) _ (List.length_set ..)) _ (List.length_set ..)) _ (List.length_set ..)) _ (List.length_set ..)) _ (List.length_set ..)) _ (List.length_set ..)) _ (List.length_set ..)) _ (List.length_set ..)) _ (List.length_set ..)) _ (List.length_set ..)) _ (List.length_set ..)) _ (List.length_set ..)) _ (List.length_set ..)) _ (List.length_set ..)) _ (List.length_set ..)) _ (List.length_set ..)) _ (List.length_set ..)) _ (List.length_set ..)) _ (List.length_set ..)) _ (List.length_set ..)) _ (List.length_set ..)) _ (List.length_set ..)) _ (List.length_set ..)) _ (List.length_set ..)) _ (List.length_set ..)) _ (List.length_set ..)) _ (List.length_set ..)) _ (List.length_set ..)) _ (List.length_set ..)) _ (List.length_set ..)) _ (List.length_set ..)) _ (List.length_set ..)) _ (List.length_set ..)) _ (List.length_set ..)) _ (List.length_set ..)) _ (List.length_set ..)) _ (List.length_set ..)) _ (List.length_set ..)) _ (List.length_set ..)) _ (List.length_set ..)) _ (List.length_set ..)) _ (List.length_set ..)) _ (List.length_set ..)) _ (List.length_set ..)) _ (List.length_set ..)) _ (List.length_set ..)) _ (List.length_set ..)) _ (List.length_set ..)) _ (List.length_set ..)) _ (List.length_set ..)) _ (List.length_set ..)) _ (List.length_set ..)) _ (List.length_set ..)) _ (List.length_set ..)) _ (List.length_set ..)) _ (List.length_set ..)) _ (List.length_set ..)) _ (List.length_set ..)) (c := 74) (n := 89) (by decide) rfl (by decide) (by decide)) (wa_74 _ _) ?_
                refine rb_iinc (lv' := [some (.ref 68), some (.int 73)]) rfl rfl ?_
                refine rb_goto ?_
                refine rn_step rfl ?_
                refine rb_iload rfl ?_
                refine rb_push ?_
                refine rb_cge (fun h => absurd h (by decide)) (fun _ => ?_)
                refine rb_aload rfl ?_
                refine rb_getf (v := .ref 74) rfl ?_
                refine rb_iload rfl ?_
                refine rb_aload rfl ?_
                refine rb_getf (v := .ref 69) rfl ?_
                refine rb_iload rfl ?_
                refine rb_iald rfl (by decide) (show _ = some (0) from rfl) ?_
                refine rb_iast rfl (by decide) (ok_lt (okL.sA (okL.sA (okL.sA (okL.sA (okL.sA (okL.sA (okL.sA (okL.sA (okL.sA (okL.sA (okL.sA (okL.sA (okL.sA (okL.sA (okL.sA (okL.sA (okL.sA (okL.sA (okL.sA (okL.sA (okL.sA (okL.sA (okL.sA (okL.sA (okL.sA (okL.sA (okL.sA (okL.sA (okL.sA (okL.sA (okL.sA (okL.sA (okL.sA (okL.sA (okL.sA (okL.sA (okL.sA (okL.sA (okL.sA (okL.sA (okL.sA (okL.sA (okL.sA (okL.sA (okL.sA (okL.sA (okL.sA (okL.sA (okL.sA (okL.sA (okL.sA (okL.sA (okL.sA (okL.sA (okL.sA (okL.sA (okL.sA (okL.sA (okL.sA (okL.sA (okL.sA (okL.sA (okL.sA (okL.sA (okL.sA (okL.sA (okL.sA (okL.sA (okL.sA (okL.sA (okL.sA (okL.sA (okL.sA s1_ok _ (List.length_set ..)) _ (List.length_set ..)) _ (List.length_set ..)) _ (List.length_set ..)) _ (List.length_set ..)) _ (List.length_set ..)) _ (List.length_set ..)) _ (List.length_set ..)) _ (List.length_set ..)) _ (List.length_set ..)) _ (List.length_set ..)) _ (List.length_set ..)) _ (List.length_set ..)) _ (List.length_set ..)) _ (List.length_set ..)) _ (List.length_set ..)) _ (List.length_set ..)) _ (List.length_set ..)) _ (List.length_set ..)) _ (List.length_set ..)) _ (List.length_set ..)) _ (List.length_set ..)) _ (List.length_set ..)) _ (List.length_set ..)) _ (List.length_set ..)) _ (List.length_set ..)) _ (List.length_set ..)) _ (List.length_set ..)) _ (List.length_set ..)) _ (List.length_set ..)) _ (List.length_set ..)) _ (List.length_set ..)) _ (List.length_set ..)) _ (List.length_set ..)) _ (List.length_set ..)) _ (List.length_set ..)) _ (List.length_set ..)) _ (List.length_set ..)) _ (List.length_set ..)) _ (List.length_set ..)) _ (List.length_set ..)) _ (List.length_set ..)) _ (List.length_set ..)) _ (List.length_set ..)) _ (List.length_set ..)) _ (List.length_set ..)) _ (List.length_set ..)) _ (List.length_set ..)) _ (List.length_set ..)) _ (List.length_set ..)) _ (List.length_set ..)) _ (List.length_set ..)) _ (List.length_set ..)) _ (List.length_set ..)) _ (List.length_set ..)) _ (List.length_set ..)) _ (List.length_set ..)) _ (List.length_set ..)) _ (List.length_set ..)) _ (List.length_set ..)) _ (List.length_set ..)) _ (List.length_set ..)) _ (List.length_set ..)) _ (List.length_set ..)) _ (List.length_set ..)) _ (List.length_set ..)) _ (List.length_set ..)) _ (List.length_set ..)) _ (List.length_set ..)) _ (List.length_set ..)) _ (List.length_set ..)) _ (List.length_set ..)) _ (List.length_set ..)) (c := 74) (n := 89) (by decide) rfl (by decide) (by decide)) (wa_74 _ _) ?_
                refine rb_iinc (lv' := [some (.ref 68), some (.int 74)]) rfl rfl ?_
                refine rb_goto ?_
                refine rn_step rfl ?_
                refine rb_iload rfl ?_
                refine rb_push ?_
                refine rb_cge (fun h => absurd h (by decide)) (fun _ => ?_)
                refine rb_aload rfl ?_
                refine rb_getf (v := .ref 74) rfl ?_
                refine rb_iload rfl ?_
                refine rb_aload rfl ?_
                refine rb_getf (v := .ref 69) rfl ?_
                refine rb_iload rfl ?_
                refine rb_iald rfl (by decide) (show _ = some (0) from rfl) ?_
                refine rb_iast rfl (by decide) (ok_lt (okL.sA (okL.sA (okL.sA (okL.sA (okL.sA (okL.sA (okL.sA (okL.sA (okL.sA (okL.sA (okL.sA (okL.sA (okL.sA (okL.sA (okL.sA (okL.sA (okL.sA (okL.sA (okL.sA (okL.sA (okL.sA (okL.sA (okL.sA (okL.sA (okL.sA (okL.sA (okL.sA (okL.sA (okL.sA (okL.sA (okL.sA (okL.sA (okL.sA (okL.sA (okL.sA (okL.sA (okL.sA (okL.sA (okL.sA (okL.sA (okL.sA (okL.sA (okL.sA (okL.sA (okL.sA (okL.sA (okL.sA (okL.sA (okL.sA (okL.sA (okL.sA (okL.sA (okL.sA (okL.sA (okL.sA (okL.sA (okL.sA (okL.sA (okL.sA (okL.sA (okL.sA (okL.sA (okL.sA (okL.sA (okL.sA (okL.sA (okL.sA (okL.sA (okL.sA (okL.sA (okL.sA (okL.sA (okL.sA (okL.sA s1_ok _ (List.length_set ..)) _ (List.length_set ..)) _ (List.length_set ..)) _ (List.length_set ..)) _ (List.length_set ..)) _ (List.length_set ..)) _ (List.length_set ..)) _ (List.length_set ..)) _ (List.length_set ..)) _ (List.length_set ..)) _ (List.length_set ..)) _ (List.length_set ..)) _ (List.length_set ..)) _ (List.length_set ..)) _ (List.length_set ..)) _ (List.length_set ..)) _ (List.length_set ..)) _ (List.length_set ..)) _ (List.length_set ..)) _ (List.length_set ..)) _ (List.length_set ..)) _ (List.length_set ..)) _ (List.length_set ..)) _ (List.length_set ..)) _ (List.length_set ..)) _ (List.length_set ..)) _ (List.length_set ..)) _ (List.length_set ..)) _ (List.length_set ..)) _ (List.length_set ..)) _ (List.length_set ..)) _ (List.length_set ..)) _ (List.length_set ..)) _ (List.length_set ..)) _ (List.length_set ..)) _ (List.length_set ..)) _ (List.length_set ..)) _ (List.length_set ..)) _ (List.length_set ..)) _ (List.length_set ..)) _ (List.length_set ..)) _ (List.length_set ..)) _ (List.length_set ..)) _ (List.length_set ..)) _ (List.length_set ..)) _ (List.length_set ..)) _ (List.length_set ..)) _ (List.length_set ..)) _ (List.length_set ..)) _ (List.length_set ..)) _ (List.length_set ..)) _ (List.length_set ..)) _ (List.length_set ..)) _ (List.length_set ..)) _ (List.length_set ..)) _ (List.length_set ..)) _ (List.length_set ..)) _ (List.length_set ..)) _ (List.length_set ..)) _ (List.length_set ..)) _ (List.length_set ..)) _ (List.length_set ..)) _ (List.length_set ..)) _ (List.length_set ..)) _ (List.length_set ..)) _ (List.length_set ..)) _ (List.length_set ..)) _ (List.length_set ..)) _ (List.length_set ..)) _ (List.length_set ..)) _ (List.length_set ..)) _ (List.length_set ..)) _ (List.length_set ..)) _ (List.length_set ..)) (c := 74) (n := 89) (by decide) rfl (by decide) (by decide)) (wa_74 _ _) ?_
                refine rb_iinc (lv' := [some (.ref 68), some (.int 75)]) rfl rfl ?_
                refine rb_goto ?_
                refine rn_step rfl ?_
                refine rb_iload rfl ?_
                refine rb_push ?_
                refine rb_cge (fun h => absurd h (by decide)) (fun _ => ?_)
                refine rb_aload rfl ?_
                refine rb_getf (v := .ref 74) rfl ?_
                refine rb_iload rfl ?_
                refine rb_aload rfl ?_
                refine rb_getf (v := .ref 69) rfl ?_
                refine rb_iload rfl ?_
                refine rb_iald rfl (by decide) (show _ = some (0) from rfl) ?_
                refine rb_iast rfl (by decide) (ok_lt (okL.sA (okL.sA (okL.sA (okL.sA (okL.sA (okL.sA (okL.sA (okL.sA (okL.sA (okL.sA (okL.sA (okL.sA (okL.sA (okL.sA (okL.sA (okL.sA (okL.sA (okL.sA (okL.sA (okL.sA (okL.sA (okL.sA (okL.sA (okL.sA (okL.sA (okL.sA (okL.sA (okL.sA (okL.sA (okL.sA (okL.sA (okL.sA (okL.sA (okL.sA (okL.sA (okL.sA (okL.sA (okL.sA (okL.sA (okL.sA (okL.sA (okL.sA (okL.sA (okL.sA (okL.sA (okL.sA (okL.sA (okL.sA (okL.sA (okL.sA (okL.sA (okL.sA (okL.sA (okL.sA (okL.sA (okL.sA (okL.sA (okL.sA (okL.sA (okL.sA (okL.sA (okL.sA (okL.sA (okL.sA (okL.sA (okL.sA (okL.sA (okL.sA (okL.sA (okL.sA (okL.sA (okL.sA (okL.sA (okL.sA (okL.sA s1_ok _ (List.length_set ..)) _ (List.length_set ..)) _ (List.length_set ..)) _ (List.length_set ..)) _ (List.length_set ..)) _ (List.length_set ..)) _ (List.length_set ..)) _ (List.length_set ..)) _ (List.length_set ..)) _ (List.length_set ..)) _ (List.length_set ..)) _ (List.length_set ..)) _ (List.length_set ..)) _ (List.length_set ..)) _ (List.length_set ..)) _ (List.length_set ..)) _ (List.length_set ..)) _ (List.length_set ..)) _ (List.length_set ..)) _ (List.length_set ..)) _ (List.length_set ..)) _ (List.length_set ..)) _ (List.length_set ..)) _ (List.length_set ..)) _ (List.length_set ..)) _ (List.length_set ..)) _ (List.length_set ..)) _ (List.length_set ..)) _ (List.length_set ..)) _ (List.length_set ..)) _ (List.length_set ..)) _ (List.length_set ..)) _ (List.length_set ..)) _ (List.length_set ..)) _ (List.length_set ..)) _ (List.length_set ..)) _ (List.length_set ..)) _ (List.length_set ..)) _ (List.length_set ..)) _ (List.length_set ..)) _ (List.length_set ..)) _ (List.length_set ..)) _ (List.length_set ..)) _ (List.length_set ..)) _ (List.length_set ..)) _ (List.length_set ..)) _ (List.length_set ..)) _ (List.length_set ..)) _ (List.length_set ..)) _ (List.length_set ..)) _ (List.length_set ..)) _ (List.length_set ..)) _ (List.length_set ..)) _ (List.length_set ..)) _ (List.length_set ..)) _ (List.length_set ..)) _ (List.length_set ..)) _ (List.length_set ..)) _ (List.length_set ..)) _ (List.length_set ..)) _ (List.length_set ..)) _ (List.length_set ..)) _ (List.length_set ..)) _ (List.length_set ..)) _ (List.length_set ..)) _ (List.length_set ..)) _ (List.length_set ..)) _ (List.length_set ..)) _ (List.length_set ..)) _ (List.length_set ..)) _ (List.length_set ..)) _ (List.length_set ..)) _ (List.length_set ..)) _ (List.length_set ..)) _ (List.length_set ..)) (c := 74) (n := 89) (by decide) rfl (by decide) (by decide)) (wa_74 _ _) ?_
                refine rb_iinc (lv' := [some (.ref 68), some (.int 76)]) rfl rfl ?_
                refine rb_goto ?_
                refine rn_step rfl ?_
                refine rb_iload rfl ?_
                refine rb_push ?_
                refine rb_cge (fun h => absurd h (by decide)) (fun _ => ?_)
                refine rb_aload rfl ?_
                refine rb_getf (v := .ref 74) rfl ?_
                refine rb_iload rfl ?_
                refine rb_aload rfl ?_
                refine rb_getf (v := .ref 69) rfl ?_
                refine rb_iload rfl ?_
                refine rb_iald rfl (by decide) (show _ = some (0) from rfl) ?_
                refine rb_iast rfl (by decide) (ok_lt (okL.sA (okL.sA (okL.sA (okL.sA (okL.sA (okL.sA (okL.sA (okL.sA (okL.sA (okL.sA (okL.sA (okL.sA (okL.sA (okL.sA (okL.sA (okL.sA (okL.sA (okL.sA (okL.sA (okL.sA (okL.sA (okL.sA (okL.sA (okL.sA (okL.sA (okL.sA (okL.sA (okL.sA (okL.sA (okL.sA (okL.sA (okL.sA (okL.sA (okL.sA (okL.sA (okL.sA (okL.sA (okL.sA (okL.sA (okL.sA (okL.sA (okL.sA (okL.sA (okL.sA (okL.sA (okL.sA (okL.sA (okL.sA (okL.sA (okL.sA (okL.sA (okL.sA (okL.sA (okL.sA (okL.sA (okL.sA (okL.sA (okL.sA (okL.sA (okL.sA (okL.sA (okL.sA (okL.sA (okL.sA (okL.sA (okL.sA (okL.sA (okL.sA (okL.sA (okL.sA (okL.sA (okL.sA (okL.sA (okL.sA (okL.sA (okL.sA s1_ok _ (List.length_set ..)) _ (List.length_set ..)) _ (List.length_set ..)) _ (List.length_set ..)) _ (List.length_set ..)) _ (List.length_set ..)) _ (List.length_set ..)) _ (List.length_set ..)) _ (List.length_set ..)) _ (List.length_set ..)) _ (List.length_set ..)) _ (List.length_set ..)) _ (List.length_set ..)) _ (List.length_set ..)) _ (List.length_set ..)) _ (List.length_set ..)) _ (List.length_set ..)) _ (List.length_set ..)) _ (List.length_set ..)) _ (List.length_set ..)) _ (List.length_set ..)) _ (List.length_set ..)) _ (List.length_set ..)) _ (List.length_set ..)) _ (List.length_set ..)) _ (List.length_set ..)) _ (List.length_set ..)) _ (List.length_set ..)) _ (List.length_set ..)) _ (List.length_set ..)) _ (List.length_set ..)) _ (List.length_set ..)) _ (List.length_set ..)) _ (List.length_set ..)) _ (List.length_set ..)) _ (List.length_set ..)) _ (List.length_set ..)) _ (List.length_set ..)) _ (List.length_set ..)) _ (List.length_set ..)) _ (List.length_set ..)) _ (List.length_set ..)) _ (List.length_set ..)) _ (List.length_set ..)) _ (List.length_set ..)) _ (List.length_set ..)) _ (List.length_set ..)) _ (List.length_set ..)) _ (List.length_set ..)) _ (List.length_set ..)) _ (List.length_set ..)) _ (List.length_set ..)) _ (List.length_set ..)) _ (List.length_set ..)) _ (List.length_set ..)) _ (List.length_set ..)) _ (List.length_set ..)) _ (List.length_set ..)) _ (List.length_set ..)) _ (List.length_set ..)) _ (List.length_set ..)) _ (List.length_set ..)) _ (List.length_set ..)) _ (List.length_set ..)) _ (List.length_set ..)) _ (List.length_set ..)) _ (List.length_set ..)) _ (List.length_set ..)) _ (List.length_set ..)) _ (List.length_set ..)) _ (List.length_set ..)) _ (List.length_set ..)) _ (List.length_set ..)) _ (List.length_set ..)) _ (List.length_set ..)) _ (List.length_set ..)) (c := 74) (n := 89) (by decide) rfl (by decide) (by decide)) (wa_74 _ _) ?_
                refine rb_iinc (lv' := [some (.ref 68), some (.int 77)]) rfl rfl ?_
                refine rb_goto ?_
                refine rn_step rfl ?_
                refine rb_iload rfl ?_
                refine rb_push ?_
                refine rb_cge (fun h => absurd h (by decide)) (fun _ => ?_)
                refine rb_aload rfl ?_
                refine rb_getf (v := .ref 74) rfl ?_
                refine rb_iload rfl ?_
                refine rb_aload rfl ?_
                refine rb_getf (v := .ref 69) rfl ?_
                refine rb_iload rfl ?_
                refine rb_iald rfl (by decide) (show _ = some (0) from rfl) ?_
                refine rb_iast rfl (by decide) (ok_lt (okL.sA (okL.sA (okL.sA (okL.sA (okL.sA (okL.sA (okL.sA (okL.sA (okL.sA (okL.sA (okL.sA (okL.sA (okL.sA (okL.sA (okL.sA (okL.sA (okL.sA (okL.sA (okL.sA (okL.sA (okL.sA (okL.sA (okL.sA (okL.sA (okL.sA (okL.sA (okL.sA (okL.sA (okL.sA (okL.sA (okL.sA (okL.sA (okL.sA (okL.sA (okL.sA (okL.sA (okL.sA (okL.sA (okL.sA (okL.sA (okL.sA (okL.sA (okL.sA (okL.sA (okL.sA (okL.sA (okL.sA (okL.sA (okL.sA (okL.sA (okL.sA (okL.sA (okL.sA (okL.sA (okL.sA (okL.sA (okL.sA (okL.sA (okL.sA (okL.sA (okL.sA (okL.sA (okL.sA (okL.sA (okL.sA (okL.sA (okL.sA (okL.sA (okL.sA (okL.sA (okL.sA (okL.sA (okL.sA (okL.sA (okL.sA (okL.sA (okL.sA s1_ok _ (List.length_set ..)) _ (List.length_set ..)) _ (List.length_set ..)) _ (List.length_set ..)) _ (List.length_set ..)) _ (List.length_set ..)) _ (List.length_set ..)) _ (List.length_set ..)) _ (List.length_set ..)) _ (List.length_set ..)) _ (List.length_set ..)) _ (List.length_set ..)) _ (List.length_set ..)) _ (List.length_set ..)) _ (List.length_set ..)) _ (List.length_set ..)) _ (List.length_set ..)) _ (List.length_set ..)) _ (List.length_set ..)) _ (List.length_set ..)) _ (List.length_set ..)) _ (List.length_set ..)) _ (List.length_set ..)) _ (List.length_set ..)) _ (List.length_set ..)) _ (List.length_set ..)) _ (List.length_set ..)) _ (List.length_set ..)) _ (List.length_set ..)) _ (List.length_set ..)) _ (List.length_set ..)) _ (List.length_set ..)) _ (List.length_set ..)) _ (List.length_set ..)) _ (List.length_set ..)) _ (List.length_set ..)) _ (List.length_set ..)) _ (List.length_set ..)) _ (List.length_set ..)) _ (List.length_set ..)) _ (List.length_set ..)) _ (List.length_set ..)) _ (List.length_set ..)) _ (List.length_set ..)) _ (List.length_set ..)) _ (List.length_set ..)) _ (List.length_set ..)) _ (List.length_set ..)) _ (List.length_set ..)) _ (List.length_set ..)) _ (List.length_set ..)) _ (List.length_set ..)) _ (List.length_set ..)) _ (List.length_set ..)) _ (List.length_set ..)) _ (List.length_set ..)) _ (List.length_set ..)) _ (List.length_set ..)) _ (List.length_set ..)) _ (List.length_set ..)) _ (List.length_set ..)) _ (List.length_set ..)) _ (List.length_set ..)) _ (List.length_set ..)) _ (List.length_set ..)) _ (List.length_set ..)) _ (List.length_set ..)) _ (List.length_set ..)) _ (List.length_set ..)) _ (List.length_set ..)) _ (List.length_set ..)) _ (List.length_set ..)) _ (List.length_set ..)) _ (List.length_set ..)) _ (List.length_set ..)) _ (List.length_set ..)) _ (List.length_set ..)) (c := 74) (n := 89) (by decide) rfl (by decide) (by decide)) (wa_74 _ _) ?_
                refine rb_iinc (lv' := [some (.ref 68), some (.int 78)]) rfl rfl ?_
                refine rb_goto ?_
                refine rn_step rfl ?_
                refine rb_iload rfl ?_
                refine rb_push ?_
                refine rb_cge (fun h => absurd h (by decide)) (fun _ => ?_)
                refine rb_aload rfl ?_
                refine rb_getf (v := .ref 74) rfl ?_
                refine rb_iload rfl ?_
                refine rb_aload rfl ?_
                refine rb_getf (v := .ref 69) rfl ?_
                refine rb_iload rfl ?_
                refine rb_iald rfl (by decide) (show _ = some (0) from rfl) ?_
                refine rb_iast rfl (by decide) (ok_lt (okL.sA (okL.sA (okL.sA (okL.sA (okL.sA (okL.sA (okL.sA (okL.sA (okL.sA (okL.sA (okL.sA (okL.sA (okL.sA (okL.sA (okL.sA (okL.sA (okL.sA (okL.sA (okL.sA (okL.sA (okL.sA (okL.sA (okL.sA (okL.sA (okL.sA (okL.sA (okL.sA (okL.sA (okL.sA (okL.sA (okL.sA (okL.sA (okL.sA (okL.sA (okL.sA (okL.sA (okL.sA (okL.sA (okL.sA (okL.sA (okL.sA (okL.sA (okL.sA (okL.sA (okL.sA (okL.sA (okL.sA (okL.sA (okL.sA (okL.sA (okL.sA (okL.sA (okL.sA (okL.sA (okL.sA (okL.sA (okL.sA (okL.sA (okL.sA (okL.sA (okL.sA (okL.sA (okL.sA (okL.sA (okL.sA (okL.sA (okL.sA (okL.sA (okL.sA (okL.sA (okL.sA (okL.sA (okL.sA (okL.sA (okL.sA (okL.sA (okL.sA (okL.sA s1_ok _ (List.length_set ..)) _ (List.length_set ..)) _ (List.length_set ..)) _ (List.length_set ..)) _ (List.length_set ..)) _ (List.length_set ..)) _ (List.length_set ..)) _ (List.length_set ..)) _ (List.length_set ..)) _ (List.length_set ..)) _ (List.length_set ..)) _ (List.length_set ..)) _ (List.length_set ..)) _ (List.length_set ..)) _ (List.length_set ..)) _ (List.length_set ..)) _ (List.length_set ..)) _ (List.length_set ..)) _ (List.length_set ..)) _ (List.length_set ..)) _ (List.length_set ..)) _ (List.length_set ..)) _ (List.length_set ..)) _ (List.length_set ..)) _ (List.length_set ..)) _ (List.length_set ..)) _ (List.length_set ..)) _ (List.length_set ..)) _ (List.length_set ..)) _ (List.length_set ..)) _ (List.length_set ..)) _ (List.length_set ..)) _ (List.length_set ..)) _ (List.length_set ..)) _ (List.length_set ..)) _ (List.length_set ..)) _ (List.length_set ..)) _ (List.length_set ..)) _ (List.length_set ..)) _ (List.length_set ..)) _ (List.length_set ..)) _ (List.length_set ..)) _ (List.length_set ..)) _ (List.length_set ..)) _ (List.length_set ..)) _ (List.length_set ..)) _ (List.length_set ..)) _ (List.length_set ..)) _ (List.length_set ..)) _ (List.length_set ..)) _ (List.length_set ..)) _ (List.length_set ..)) _ (List.length_set ..)) _ (List.length_set ..)) _ (List.length_set ..)) _ (List.length_set ..)) _ (List.length_set ..)) _ (List.length_set ..)) _ (List.length_set ..)) _ (List.length_set ..)) _ (List.length_set ..)) _ (List.length_set ..)) _ (List.length_set ..)) _ (List.length_set ..)) _ (List.length_set ..)) _ (List.length_set ..)) _ (List.length_set ..)) _ (List.length_set ..)) _ (List.length_set ..)) _ (List.length_set ..)) _ (List.length_set ..)) _ (List.length_set ..)) _ (List.length_set ..)) _ (List.length_set ..)) _ (List.length_set ..)) _ (List.length_set ..)) _ (List.length_set ..)) _ (List.length_set ..)) (c := 74) (n := 89) (by decide) rfl (by decide) (by decide)) (wa_74 _ _) ?_
                refine rb_iinc (lv' := [some (.ref 68), some (.int 79)]) rfl rfl ?_
                refine rb_goto ?_
                refine rn_step rfl ?_
                refine rb_iload rfl ?_
                refine rb_push ?_
                refine rb_cge (fun h => absurd h (by decide)) (fun _ => ?_)
                refine rb_aload rfl ?_
                refine rb_getf (v := .ref 74) rfl ?_
                refine rb_iload rfl ?_
                refine rb_aload rfl ?_
                refine rb_getf (v := .ref 69) rfl ?_
                refine rb_iload rfl ?_
                refine rb_iald rfl (by decide) (show _ = some (0) from rfl) ?_
                refine rb_iast rfl (by decide) (ok_lt (okL.sA (okL.sA (okL.sA (okL.sA (okL.sA (okL.sA (okL.sA (okL.sA (okL.sA (okL.sA (okL.sA (okL.sA (okL.sA (okL.sA (okL.sA (okL.sA (okL.sA (okL.sA (okL.sA (okL.sA (okL.sA (okL.sA (okL.sA (okL.sA (okL.sA (okL.sA (okL.sA (okL.sA (okL.sA (okL.sA (okL.sA (okL.sA (okL.sA (okL.sA (okL.sA (okL.sA (okL.sA (okL.sA (okL.sA (okL.sA (okL.sA (okL.sA (okL.sA (okL.sA (okL.sA (okL.sA (okL.sA (okL.sA (okL.sA (okL.sA (okL.sA (okL.sA (okL.sA (okL.sA (okL.sA (okL.sA (okL.sA (okL.sA (okL.sA (okL.sA (okL.sA (okL.sA (okL.sA (okL.sA (okL.sA (okL.sA (okL.sA (okL.sA (okL.sA (okL.sA (okL.sA (okL.sA (okL.sA (okL.sA (okL.sA (okL.sA (okL.sA (okL.sA (okL.sA s1_ok _ (List.length_set ..)) _ (List.length_set ..)) _ (List.length_set ..)) _ (List.length_set ..)) _ (List.length_set ..)) _ (List.length_set ..)) _ (List.length_set ..)) _ (List.length_set ..)) _ (List.length_set ..)) _ (List.length_set ..)) _ (List.length_set ..)) _ (List.length_set ..)) _ (List.length_set ..)) _ (List.length_set ..)) _ (List.length_set ..)) _ (List.length_set ..)) _ (List.length_set ..)) _ (List.length_set ..)) _ (List.length_set ..)) _ (List.length_set ..)) _ (List.length_set ..)) _ (List.length_set ..)) _ (List.length_set ..)) _ (List.length_set ..)) _ (List.length_set ..)) _ (List.length_set ..)) _ (List.length_set ..)) _ (List.length_set ..)) _ (List.length_set ..)) _ (List.length_set ..)) _ (List.length_set ..)) _ (List.length_set ..)) _ (List.length_set ..)) _ (List.length_set ..)) _ (List.length_set ..)) _ (List.length_set ..)) _ (List.length_set ..)) _ (List.length_set ..)) _ (List.length_set ..)) _ (List.length_set ..)) _ (List.length_set ..)) _ (List.length_set ..)) _ (List.length_set ..)) _ (List.length_set ..)) _ (List.length_set ..)) _ (List.length_set ..)) _ (List.length_set ..)) _ (List.length_set ..)) _ (List.length_set ..)) _ (List.length_set ..)) _ (List.length_set ..)) _ (List.length_set ..)) _ (List.length_set ..)) _ (List.length_set ..)) _ (List.length_set ..)) _ (List.length_set ..)) _ (List.length_set ..)) _ (List.length_set ..)) _ (List.length_set ..)) _ (List.length_set ..)) _ (List.length_set ..)) _ (List.length_set ..)) _ (List.length_set ..)) _ (List.length_set ..)) _ (List.length_set ..)) _ (List.length_set ..)) _ (List.length_set ..)) _ (List.length_set ..)) _ (List.length_set ..)) _ (List.length_set ..)) _ (List.length_set ..)) _ (List.length_set ..)) _ (List.length_set ..)) _ (List.length_set ..)) _ (List.length_set ..)) _ (List.length_set ..)) _ (List.length_set ..)) _ (List.length_set ..)) _ (List.length_set ..)) (c := 74) (n := 89) (by decide) rfl (by decide) (by decide)) (wa_74 _ _) ?_
                refine rb_iinc (lv' := [some (.ref 68), some (.int 80)]) rfl rfl ?_
                refine rb_goto ?_
                refine rn_step rfl ?_
                refine rb_iload rfl ?_
                refine rb_push ?_
                refine rb_cge (fun h => absurd h (by decide)) (fun _ => ?_)
                refine rb_aload rfl ?_
                refine rb_getf (v := .ref 74) rfl ?_
                refine rb_iload rfl ?_
                refine rb_aload rfl ?_
                refine rb_getf (v := .ref 69) rfl ?_
                refine rb_iload rfl ?_
                refine rb_iald rfl (by decide) (show _ = some (0) from rfl) ?_
                refine rb_iast rfl (by decide) (ok_lt (okL.sA (okL.sA (okL.sA (okL.sA (okL.sA (okL.sA (okL.sA (okL.sA (okL.sA (okL.sA (okL.sA (okL.sA (okL.sA (okL.sA (okL.sA (okL.sA (okL.sA (okL.sA (okL.sA (okL.sA (okL.sA (okL.sA (okL.sA (okL.sA (okL.sA (okL.sA (okL.sA (okL.sA (okL.sA (okL.sA (okL.sA (okL.sA (okL.sA (okL.sA (okL.sA (okL.sA (okL.sA (okL.sA (okL.sA (okL.sA (okL.sA (okL.sA (okL.sA (okL.sA (okL.sA (okL.sA (okL.sA (okL.sA (okL.sA (okL.sA (okL.sA (okL.sA (okL.sA (okL.sA (okL.sA (okL.sA (okL.sA (okL.sA (okL.sA (okL.sA (okL.sA (okL.sA (okL.sA (okL.sA (okL.sA (okL.sA (okL.sA (okL.sA (okL.sA (okL.sA (okL.sA (okL.sA (okL.sA (okL.sA (okL.sA (okL.sA (okL.sA (okL.sA (okL.sA (okL.sA s1_ok _ (List.length_set ..)) _ (List.length_set ..)) _ (List.length_set ..)) _ (List.length_set ..)) _ (List.length_set ..)) _ (List.length_set ..)) _ (List.length_set ..)) _ (List.length_set ..)) _ (List.length_set ..)) _ (List.length_set ..)) _ (List.length_set ..)) _ (List.length_set ..)) _ (List.length_set ..)) _ (List.length_set ..)) _ (List.length_set ..)) _ (List.length_set ..)) _ (List.length_set ..)) _ (List.length_set ..)) _ (List.length_set ..)) _ (List.length_set ..)) _ (List.length_set ..)) _ (List.length_set ..)) _ (List.length_set ..)) _ (List.length_set ..)) _ (List.length_set ..)) _ (List.length_set ..)) _ (List.length_set ..)) _ (List.length_set ..)) _ (List.length_set ..)) _ (List.length_set ..)) _ (List.length_set ..)) _ (List.length_set ..)) _ (List.length_set ..)) _ (List.length_set ..)) _ (List.length_set ..)) _ (List.length_set ..)) _ (List.length_set ..)) _ (List.length_set ..)) _ (List.length_set ..)) _ (List.length_set ..)) _ (List.length_set ..)) _ (List.length_set ..)) _ (List.length_set ..)) _ (List.length_set ..)) _ (List.length_set ..)) _ (List.length_set ..)) _ (List.length_set ..)) _ (List.length_set ..)) _ (List.length_set ..)) _ (List.length_set ..)) _ (List.length_set ..)) _ (List.length_set ..)) _ (List.length_set ..)) _ (List.length_set ..)) _ (List.length_set ..)) _ (List.length_set ..)) _ (List.length_set ..)) _ (List.length_set ..)) _ (List.length_set ..)) _ (List.length_set ..)) _ (List.length_set ..)) _ (List.length_set ..)) _ (List.length_set ..)) _ (List.length_set ..)) _ (List.length_set ..)) _ (List.length_set ..)) _ (List.length_set ..)) _ (List.length_set ..)) _ (List.length_set ..)) _ (List.length_set ..)) _ (List.length_set ..)) _ (List.length_set ..)) _ (List.length_set ..)) _ (List.length_set ..)) _ (List.length_set ..)) _ (List.length_set ..)) _ (List.length_set ..)) _ (List.length_set ..)) _ (List.length_set ..)) _ (List.length_set ..)) (c := 74) (n := 89) (by decide) rfl (by decide) (by decide)) (wa_74 _ _) ?_
                refine rb_iinc (lv' := [some (.ref 68), some (.int 81)]) rfl rfl ?_
                refine rb_goto ?_
                refine rn_step rfl ?_
                refine rb_iload rfl ?_
                refine rb_push ?_
                refine rb_cge (fun h => absurd h (by decide)) (fun _ => ?_)
                refine rb_aload rfl ?_
                refine rb_getf (v := .ref 74) rfl ?_
                refine rb_iload rfl ?_
                refine rb_aload rfl ?_
                refine rb_getf (v := .ref 69) rfl ?_
                refine rb_iload rfl ?_
                refine rb_iald rfl (by decide) (show _ = some (0) from rfl) ?_
                refine rb_iast rfl (by decide) (ok_lt (okL.sA (okL.sA (okL.sA (okL.sA (okL.sA (okL.sA (okL.sA (okL.sA (okL.sA (okL.sA (okL.sA (okL.sA (okL.sA (okL.sA (okL.sA (okL.sA (okL.sA (okL.sA (okL.sA (okL.sA (okL.sA (okL.sA (okL.sA (okL.sA (okL.sA (okL.sA (okL.sA (okL.sA (okL.sA (okL.sA (okL.sA (okL.sA (okL.sA (okL.sA (okL.sA (okL.sA (okL.sA (okL.sA (okL.sA (okL.sA (okL.sA (okL.sA (okL.sA (okL.sA (okL.sA (okL.sA (okL.sA (okL.sA (okL.sA (okL.sA (okL.sA (okL.sA (okL.sA (okL.sA (okL.sA (okL.sA (okL.sA (okL.sA (okL.sA (okL.sA (okL.sA (okL.sA (okL.sA (okL.sA (okL.sA (okL.sA (okL.sA (okL.sA (okL.sA (okL.sA (okL.sA (okL.sA (okL.sA (okL.sA (okL.sA (okL.sA (okL.sA (okL.sA (okL.sA (okL.sA (okL.sA s1_ok _ (List.length_set ..)) _ (List.length_set ..)) _ (List.length_set ..)) _ (List.length_set ..)) _ (List.length_set ..)) _ (List.length_set ..)) _ (List.length_set ..)) _ (List.length_set ..)) _ (List.length_set ..)) _ (List.length_set ..)) _ (List.length_set ..)) _ (List.length_set ..)) _ (List.length_set ..)) _ (List.length_set ..)) _ (List.length_set ..)) _ (List.length_set ..)) _ (List.length_set ..)) _ (List.length_set ..)) _ (List.length_set ..)) _ (List.length_set ..)) _ (List.length_set ..)) _ (List.length_set ..)) _ (List.length_set ..)) _ (List.length_set ..)) _ (List.length_set ..)) _ (List.length_set ..)) _ (List.length_set ..)) _ (List.length_set ..)) _ (List.length_set ..)) _ (List.length_set ..)) _ (List.length_set ..)) _ (List.length_set ..)) _ (List.length_set ..)) _ (List.length_set ..)) _ (List.length_set ..)) _ (List.length_set ..)) _ (List.length_set ..)) _ (List.length_set ..)) _ (List.length_set ..)) _ (List.length_set ..)) _ (List.length_set ..)) _ (List.length_set ..)) _ (List.length_set ..)) _ (List.length_set ..)) _ (List.length_set ..)) _ (List.length_set ..)) _ (List.length_set ..)) _ (List.length_set ..)) _ (List.length_set ..)) _ (List.length_set ..)) _ (List.length_set ..)) _ (List.length_set ..)) _ (List.length_set ..)) _ (List.length_set ..)) _ (List.length_set ..)) _ (List.length_set ..)) _ (List.length_set ..)) _ (List.length_set ..)) _ (List.length_set ..)) _ (List.length_set ..)) _ (List.length_set ..)) _ (List.length_set ..)) _ (List.length_set ..)) _ (List.length_set ..)) _ (List.length_set ..)) _ (List.length_set ..)) _ (List.length_set ..)) _ (List.length_set ..)) _ (List.length_set ..)) _ (List.length_set ..)) _ (List.length_set ..)) _ (List.length_set ..)) _ (List.length_set ..)) _ (List.length_set ..)) _ (List.length_set ..)) _ (List.length_set ..)) _ (List.length_set ..)) _ (List.length_set ..)) _ (List.length_set ..)) _ (List.length_set ..)) _ (List.length_set ..)) (c := 74) (n := 89) (by decide) rfl (by decide) (by decide)) (wa_74 _ _) ?_
                refine rb_iinc (lv' := [some (.ref 68), some (.int 82)]) rfl rfl ?_
                refine rb_goto ?_
                refine rn_step rfl ?_
                refine rb_iload rfl ?_
                refine rb_push ?_
                refine rb_cge (fun h => absurd h (by decide)) (fun _ => ?_)
                refine rb_aload rfl ?_
                refine rb_getf (v := .ref 74) rfl ?_
                refine rb_iload rfl ?_
                refine rb_aload rfl ?_
                refine rb_getf (v := .ref 69) rfl ?_
                refine rb_iload rfl ?_
                refine rb_iald rfl (by decide) (show _ = some (0) from rfl) ?_
                refine rb_iast rfl (by decide) (ok_lt (okL.sA (okL.sA (okL.sA (okL.sA (okL.sA (okL.sA (okL.sA (okL.sA (okL.sA (okL.sA (okL.sA (okL.sA (okL.sA (okL.sA (okL.sA (okL.sA (okL.sA (okL.sA (okL.sA (okL.sA (okL.sA (okL.sA (okL.sA (okL.sA (okL.sA (okL.sA (okL.sA (okL.sA (okL.sA (okL.sA (okL.sA (okL.sA (okL.sA (okL.sA (okL.sA (okL.sA (okL.sA (okL.sA (okL.sA (okL.sA (okL.sA (okL.sA (okL.sA (okL.sA (okL.sA (okL.sA (okL.sA (okL.sA (okL.sA (okL.sA (okL.sA (okL.sA (okL.sA (okL.sA (okL.sA (okL.sA (okL.sA (okL.sA (okL.sA (okL.sA (okL.sA (okL.sA (okL.sA (okL.sA (okL.sA (okL.sA (okL.sA (okL.sA (okL.sA (okL.sA (okL.sA (okL.sA (okL.sA (okL.sA (okL.sA (okL.sA (okL.sA (okL.sA (okL.sA (okL.sA (okL.sA (okL.sA s1_ok _ (List.length_set ..)) _ (List.length_set ..)) _ (List.length_set ..)) _ (List.length_set ..)) _ (List.length_set ..)) _ (List.length_set ..)) _ (List.length_set ..)) _ (List.length_set ..)) _ (List.length_set ..)) _ (List.length_set ..)) _ (List.length_set ..)) _ (List.length_set ..)) _ (List.length_set ..)) _ (List.length_set ..)) _ (List.length_set ..)) _ (List.length_set ..)) _ (List.length_set ..)) _ (List.length_set ..)) _ (List.length_set ..)) _ (List.length_set ..)) _ (List.length_set ..)) _ (List.length_set ..)) _ (List.length_set ..)) _ (List.length_set ..)) _ (List.length_set ..)) _ (List.length_set ..)) _ (List.length_set ..)) _ (List.length_set ..)) _ (List.length_set ..)) _ (List.length_set ..)) _ (List.length_set ..)) _ (List.length_set ..)) _ (List.length_set ..)) _ (List.length_set ..)) _ (List.length_set ..)) _ (List.length_set ..)) _ (List.length_set ..)) _ (List.length_set ..)) _ (List.length_set ..)) _ (List.length_set ..)) _ (List.length_set ..)) _ (List.length_set ..)) _ (List.length_set ..)) _ (List.length_set ..)) _ (List.length_set ..)) _ (List.length_set ..)) _ (List.length_set ..)) _ (List.length_set ..)) _ (List.length_set ..)) _ (List.length_set ..)) _ (List.length_set ..)) _ (List.length_set ..)) _ (List.length_set ..)) _ (List.length_set ..)) _ (List.length_set ..)) _ (List.length_set ..)) _ (List.length_set ..)) _ (List.length_set ..)) _ (List.length_set ..)) _ (List.length_set ..)) _ (List.length_set ..)) _ (List.length_set ..)) _ (List.length_set ..)) _ (List.length_set ..)) _ (List.length_set ..)) _ (List.length_set ..)) _ (List.length_set ..)) _ (List.length_set ..)) _ (List.length_set ..)) _ (List.length_set ..)) _ (List.length_set ..)) _ (List.length_set ..)) _ (List.length_set ..)) _ (List.length_set ..)) _ (List.length_set ..)) _ (List.length_set ..)) _ (List.length_set ..)) _ (List.length_set ..)) _ (List.length_set ..)) _ (List.length_set ..)) _ (List.length_set ..)) _ (List.length_set ..)) (c := 74) (n := 89) (by decide) rfl (by decide) (by decide)) (wa_74 _ _) ?_
                refine rb_iinc (lv' := [some (.ref 68), some (.int 83)]) rfl rfl ?_
                refine rb_goto ?_
                refine rn_step rfl ?_
                refine rb_iload rfl ?_
                refine rb_push ?_
                refine rb_cge (fun h => absurd h (by decide)) (fun _ => ?_)
                refine rb_aload rfl ?_
                refine rb_getf (v := .ref 74) rfl ?_
                refine rb_iload rfl ?_
                refine rb_aload rfl ?_
                refine rb_getf (v := .ref 69) rfl ?_
                refine rb_iload rfl ?_
                refine rb_iald rfl (by decide) (show _ = some (0) from rfl) ?_
                refine rb_iast rfl (by decide) (ok_lt (okL.sA (okL.sA (okL.sA (okL.sA (okL.sA (okL.sA (okL.sA (okL.sA (okL.sA (okL.sA (okL.sA (okL.sA (okL.sA (okL.sA (okL.sA (okL.sA (okL.sA (okL.sA (okL.sA (okL.sA (okL.sA (okL.sA (okL.sA (okL.sA (okL.sA (okL.sA (okL.sA (okL.sA (okL.sA (okL.sA (okL.sA (okL.sA (okL.sA (okL.sA (okL.sA (okL.sA (okL.sA (okL.sA (okL.sA (okL.sA (okL.sA (okL.sA (okL.sA (okL.sA (okL.sA (okL.sA (okL.sA (okL.sA (okL.sA (okL.sA (okL.sA (okL.sA (okL.sA (okL.sA (okL.sA (okL.sA (okL.sA (okL.sA (okL.sA (okL.sA (okL.sA (okL.sA (okL.sA (okL.sA (okL.sA (okL.sA (okL.sA (okL.sA (okL.sA (okL.sA (okL.sA (okL.sA (okL.sA (okL.sA (okL.sA (okL.sA (okL.sA (okL.sA (okL.sA (okL.sA (okL.sA (okL.sA (okL.sA s1_ok _ (List.length_set ..)) _ (List.length_set ..)) _ (List.length_set ..)) _ (List.length_set ..)) _ (List.length_set ..)) _ (List.length_set ..)) _ (List.length_set ..)) _ (List.length_set ..)) _ (List.length_set ..)) _ (List.length_set ..)) _ (List.length_set ..)) _ (List.length_set ..)) _ (List.length_set ..)) _ (List.length_set ..)) _ (List.length_set ..)) _ (List.length_set ..)) _ (List.length_set ..)) _ (List.length_set ..)) _ (List.length_set ..)) _ (List.length_set ..)) _ (List.length_set ..)) _ (List.length_set ..)) _ (List.length_set ..)) _ (List.length_set ..)) _ (List.length_set ..)) _ (List.length_set ..)) _ (List.length_set ..)) _ (List.length_set ..)) _ (List.length_set ..)) _ (List.length_set ..)) _ (List.length_set ..)) _ (List.length_set ..)) _ (List.length_set ..)) _ (List.length_set ..)) _ (List.length_set ..)) _ (List.length_set ..)) _ (List.length_set ..)) _ (List.length_set ..)) _ (List.length_set ..)) _ (List.length_set ..)) _ (List.length_set ..)) _ (List.length_set ..)) _ (List.length_set ..)) _ (List.length_set ..)) _ (List.length_set ..)) _ (List.length_set ..)) _ (List.length_set ..)) _ (List.length_set ..)) _ (List.length_set ..)) _ (List.length_set ..)) _ (List.length_set ..)) _ (List.length_set ..)) _ (List.length_set ..)) _ (List.length_set ..)) _ (List.length_set ..)) _ (List.length_set ..)) _ (List.length_set ..)) _ (List.length_set ..)) _ (List.length_set ..)) _ (List.length_set ..)) _ (List.length_set ..)) _ (List.length_set ..)) _ (List.length_set ..)) _ (List.length_set ..)) _ (List.length_set ..)) _ (List.length_set ..)) _ (List.length_set ..)) _ (List.length_set ..)) _ (List.length_set ..)) _ (List.length_set ..)) _ (List.length_set ..)) _ (List.length_set ..)) _ (List.length_set ..)) _ (List.length_set ..)) _ (List.length_set ..)) _ (List.length_set ..)) _ (List.length_set ..)) _ (List.length_set ..)) _ (List.length_set ..)) _ (List.length_set ..)) _ (List.length_set ..)) _ (List.length_set ..)) _ (List.length_set ..)) (c := 74) (n := 89) (by decide) rfl (by decide) (by decide)) (wa_74 _ _) ?_
                refine rb_iinc (lv' := [some (.ref 68), some (.int 84)]) rfl rfl ?_
                refine rb_goto ?_
                refine rn_step rfl ?_
                refine rb_iload rfl ?_
                refine rb_push ?_
                refine rb_cge (fun h => absurd h (by decide)) (fun _ => ?_)
                refine rb_aload rfl ?_
                refine rb_getf (v := .ref 74) rfl ?_
                refine rb_iload rfl ?_
                refine rb_aload rfl ?_
                refine rb_getf (v := .ref 69) rfl ?_
                refine rb_iload rfl ?_
                refine rb_iald rfl (by decide) (show _ = some (0) from rfl) ?_
                refine rb_iast rfl (by decide) (ok_lt (okL.sA (okL.sA (okL.sA (okL.sA (okL.sA (okL.sA (okL.sA (okL.sA (okL.sA (okL.sA (okL.sA (okL.sA (okL.sA (okL.sA (okL.sA (okL.sA (okL.sA (okL.sA (okL.sA (okL.sA (okL.sA (okL.sA (okL.sA (okL.sA (okL.sA (okL.sA (okL.sA (okL.sA (okL.sA (okL.sA (okL.sA (okL.sA (okL.sA (okL.sA (okL.sA (okL.sA (okL.sA (okL.sA (okL.sA (okL.sA (okL.sA (okL.sA (okL.sA (okL.sA (okL.sA (okL.sA (okL.sA (okL.sA (okL.sA (okL.sA (okL.sA (okL.sA (okL.sA (okL.sA (okL.sA (okL.sA (okL.sA (okL.sA (okL.sA (okL.sA (okL.sA (okL.sA (okL.sA (okL.sA (okL.sA (okL.sA (okL.sA (okL.sA (okL.sA (okL.sA (okL.sA (okL.sA (okL.sA (okL.sA (okL.sA (okL.sA (okL.sA (okL.sA (okL.sA (okL.sA (okL.sA (okL.sA (okL.sA (okL.sA s1_ok _ (List.length_set ..)) _ (List.length_set ..)) _ (List.length_set ..)) _ (List.length_set ..)) _ (List.length_set ..)) _ (List.length_set ..)) _ (List.length_set ..)) _ (List.length_set ..)) _ (List.length_set ..)) _ (List.length_set ..)) _ (List.length_set ..)) _ (List.length_set ..)) _ (List.length_set ..)) _ (List.length_set ..)) _ (List.length_set ..)) _ (List.length_set ..)) _ (List.length_set ..)) _ (List.length_set ..)) _ (List.length_set ..)) _ (List.length_set ..)) _ (List.length_set ..)) _ (List.length_set ..)) _ (List.length_set ..)) _ (List.length_set ..)) _ (List.length_set ..)) _ (List.length_set ..)) _ (List.length_set ..)) _ (List.length_set ..)) _ (List.length_set ..)) _ (List.length_set ..)) _ (List.length_set ..)) _ (List.length_set ..)) _ (List.length_set ..)) _ (List.length_set ..)) _ (List.length_set ..)) _ (List.length_set ..)) _ (List.length_set ..)) _ (List.length_set ..)) _ (List.length_set ..)) _ (List.length_set ..)) _ (List.length_set ..)) _ (List.length_set ..)) _ (List.length_set ..)) _ (List.length_set ..)) _ (List.length_set ..)) _ (List.length_set ..)) _ (List.length_set ..)) _ (List.length_set ..)) _ (List.length_set ..)) _ (List.length_set ..)) _ (List.length_set ..)) _ (List.length_set ..)) _ (List.length_set ..)) _ (List.length_set ..)) _ (List.length_set ..)) _ (List.length_set ..)) _ (List.length_set ..)) _ (List.length_set ..)) _ (List.length_set ..)) _ (List.length_set ..)) _ (List.length_set ..)) _ (List.length_set ..)) _ (List.length_set ..)) _ (List.length_set ..)) _ (List.length_set ..)) _ (List.length_set ..)) _ (List.length_set ..)) _ (List.length_set ..)) _ (List.length_set ..)) _ (List.length_set ..)) _ (List.length_set ..)) _ (List.length_set ..)) _ (List.length_set ..)) _ (List.length_set ..)) _ (List.length_set ..)) _ (List.length_set ..)) _ (List.length_set ..)) _ (List.length_set ..)) _ (List.length_set ..)) _ (List.length_set ..)) _ (List.length_set ..)) _ (List.length_set ..)) _ (List.length_set ..)) _ (List.length_set ..)) (c := 74) (n := 89) (by decide) rfl (by decide) (by decide)) (wa_74 _ _) ?_
                refine rb_iinc (lv' := [some (.ref 68), some (.int 85)]) rfl rfl ?_
                refine rb_goto ?_
                refine rn_step rfl ?_
                refine rb_iload rfl ?_
                refine rb_push ?_
                refine rb_cge (fun h => absurd h (by decide)) (fun _ => ?_)
                refine rb_aload rfl ?_
                refine rb_getf (v := .ref 74) rfl ?_
                refine rb_iload rfl ?_
                refine rb_aload rfl ?_
                refine rb_getf (v := .ref 69) rfl ?_
                refine rb_iload rfl ?_
                refine rb_iald rfl (by decide) (show _ = some (0) from rfl) ?_
                refine rb_iast rfl (by decide) (ok_lt (okL.sA (okL.sA (okL.sA (okL.sA (okL.sA (okL.sA (okL.sA (okL.sA (okL.sA (okL.sA (okL.sA (okL.sA (okL.sA (okL.sA (okL.sA (okL.sA (okL.sA (okL.sA (okL.sA (okL.sA (okL.sA (okL.sA (okL.sA (okL.sA (okL.sA (okL.sA (okL.sA (okL.sA (okL.sA (okL.sA (okL.sA (okL.sA (okL.sA (okL.sA (okL.sA (okL.sA (okL.sA (okL.sA (okL.sA (okL.sA (okL.sA (okL.sA (okL.sA (okL.sA (okL.sA (okL.sA (okL.sA (okL.sA (okL.sA (okL.sA (okL.sA (okL.sA (okL.sA (okL.sA (okL.sA (okL.sA (okL.sA (okL.sA (okL.sA (okL.sA (okL.sA (okL.sA (okL.sA (okL.sA (okL.sA (okL.sA (okL.sA (okL.sA (okL.sA (okL.sA (okL.sA (okL.sA (okL.sA (okL.sA (okL.sA (okL.sA (okL.sA (okL.sA (okL.sA (okL.sA (okL.sA (okL.sA (okL.sA (okL.sA (okL.sA s1_ok _ (List.length_set ..)) _ (List.length_set ..)) _ (List.length_set ..)) _ (List.length_set ..)) _ (List.length_set ..)) _ (List.length_set ..)) _ (List.length_set ..)) _ (List.length_set ..)) _ (List.length_set ..)) _ (List.length_set ..)) _ (List.length_set ..)) _ (List.length_set ..)) _ (List.length_set ..)) _ (List.length_set ..)) _ (List.length_set ..)) _ (List.length_set ..)) _ (List.length_set ..)) _ (List.length_set ..)) _ (List.length_set ..)) _ (List.length_set ..)) _ (List.length_set ..)) _ (List.length_set ..)) _ (List.length_set ..)) _ (List.length_set ..)) _ (List.length_set ..)) _ (List.length_set ..)) _ (List.length_set ..)) _ (List.length_set ..)) _ (List.length_set ..)) _ (List.length_set ..)) _ (List.length_set ..)) _ (List.length_set ..)) _ (List.length_set ..)) _ (List.length_set ..)) _ (List.length_set ..)) _ (List.length_set ..)) _ (List.length_set ..)) _ (List.length_set ..)) _ (List.length_set ..)) _ (List.length_set ..)) _ (List.length_set ..)) _ (List.length_set ..)) _ (List.length_set ..)) _ (List.length_set ..)) _ (List.length_set ..)) _ (List.length_set ..)) _ (List.length_set ..)) _ (List.length_set ..)) _ (List.length_set ..)) _ (List.length_set ..)) _ (List.length_set ..)) _ (List.length_set ..)) _ (List.length_set ..)) _ (List.length_set ..)) _ (List.length_set ..)) _ (List.length_set ..)) _ (List.length_set ..)) _ (List.length_set ..)) _ (List.length_set ..)) _ (List.length_set ..)) _ (List.length_set ..)) _ (List.length_set ..)) _ (List.length_set ..)) _ (List.length_set ..)) _ (List.length_set ..)) _ (List.length_set ..)) _ (List.length_set ..)) _ (List.length_set ..)) _ (List.length_set ..)) _ (List.length_set ..)) _ (List.length_set ..)) _ (List.length_set ..)) _ (List.length_set ..)) _ (List.length_set ..)) _ (List.length_set ..)) _ (List.length_set ..)) _ (List.length_set ..)) _ (List.length_set ..)) _ (List.length_set ..)) _ (List.length_set ..)) _ (List.length_set ..)) _ (List.length_set ..)) _ (List.length_set ..)) _ (List.length_set ..)) _ (List.length_set ..)) (c := 74) (n := 89) (by decide) rfl (by decide) (by decide)) (wa_74 _ _) ?_
                refine rb_iinc (lv' := [some (.ref 68), some (.int 86)]) rfl rfl ?_
                refine rb_goto ?_
                refine rn_step rfl ?_
                refine rb_iload rfl ?_
                refine rb_push ?_
                refine rb_cge (fun h => absurd h (by decide)) (fun _ => ?_)
                refine rb_aload rfl ?_
                refine rb_getf (v := .ref 74) rfl ?_
                refine rb_iload rfl ?_
                refine rb_aload rfl ?_
                refine rb_getf (v := .ref 69) rfl ?_
                refine rb_iload rfl ?_
                refine rb_iald rfl (by decide) (show _ = some (0) from rfl) ?_
                refine rb_iast rfl (by decide) (ok_lt (okL.sA (okL.sA (okL.sA (okL.sA (okL.sA (okL.sA (okL.sA (okL.sA (okL.sA (okL.sA (okL.sA (okL.sA (okL.sA (okL.sA (okL.sA (okL.sA (okL.sA (okL.sA (okL.sA (okL.sA (okL.sA (okL.sA (okL.sA (okL.sA (okL.sA (okL.sA (okL.sA (okL.sA (okL.sA (okL.sA (okL.sA (okL.sA (okL.sA (okL.sA (okL.sA (okL.sA (okL.sA (okL.sA (okL.sA (okL.sA (okL.sA (okL.sA (okL.sA (okL.sA (okL.sA (okL.sA (okL.sA (okL.sA (okL.sA (okL.sA (okL.sA (okL.sA (okL.sA (okL.sA (okL.sA (okL.sA (okL.sA (okL.sA (okL.sA (okL.sA (okL.sA (okL.sA (okL.sA (okL.sA (okL.sA (okL.sA (okL.sA (okL.sA (okL.sA (okL.sA (okL.sA (okL.sA (okL.sA (okL.sA (okL.sA (okL.sA (okL.sA (okL.sA (okL.sA (okL.sA (okL.sA (okL.sA (okL.sA (okL.sA (okL.sA (okL.sA s1_ok _ (List.length_set ..)) _ (List.length_set ..)) _ (List.length_set ..)) _ (List.length_set ..)) _ (List.length_set ..)) _ (List.length_set ..)) _ (List.length_set ..)) _ (List.length_set ..)) _ (List.length_set ..)) _ (List.length_set ..)) _ (List.length_set ..)) _ (List.length_set ..)) _ (List.length_set ..)) _ (List.length_set ..)) _ (List.length_set ..)) _ (List.length_set ..)) _ (List.length_set ..)) _ (List.length_set ..)) _ (List.length_set ..)) _ (List.length_set ..)) _ (List.length_set ..)) _ (List.length_set ..)) _ (List.length_set ..)) _ (List.length_set ..)) _ (List.length_set ..)) _ (List.length_set ..)) _ (List.length_set ..)) _ (List.length_set ..)) _ (List.length_set ..)) _ (List.length_set ..)) _ (List.length_set ..)) _ (List.length_set ..)) _ (List.length_set ..)) _ (List.length_set ..)) _ (List.length_set ..)) _ (List.length_set ..)) _ (List.length_set ..)) _ (List.length_set ..)) _ (List.length_set ..)) _ (List.length_set ..)) _ (List.length_set ..)) _ (List.length_set ..)) _ (List.length_set ..)) _ (List.length_set ..)) _ (List.length_set ..)) _ (List.length_set ..)) _ (List.length_set ..)) _ (List.length_set ..)) _ (List.length_set ..)) _ (List.length_set ..)) _ (List.length_set ..)) _ (List.length_set ..)) _ (List.length_set ..)) _ (List.length_set ..)) _ (List.length_set ..)) _ (List.length_set ..)) _ (List.length_set ..)) _ (List.length_set ..)) _ (List.length_set ..)) _ (List.length_set ..)) _ (List.length_set ..)) _ (List.length_set ..)) _ (List.length_set ..)) _ (List.length_set ..)) _ (List.length_set ..)) _ (List.length_set ..)) _ (List.length_set ..)) _ (List.length_set ..)) _ (List.length_set ..)) _ (List.length_set ..)) _ (List.length_set ..)) _ (List.length_set ..)) _ (List.length_set ..)) _ (List.length_set ..)) _ (List.length_set ..)) _ (List.length_set ..)) _ (List.length_set ..)) _ (List.length_set ..)) _ (List.length_set ..)) _ (List.length_set ..)) _ (List.length_set ..)) _ (List.length_set ..)) _ (List.length_set ..)) _ (List.length_set ..)) _ (List.length_set ..)) _ (List.length_set ..)) (c := 74) (n := 89) (by decide) rfl (by decide) (by decide)) (wa_74 _ _) ?_
                refine rb_iinc (lv' := [some (.ref 68), some (.int 87)]) rfl rfl ?_
                refine rb_goto ?_
                refine rn_step rfl ?_
                refine rb_iload rfl ?_
                refine rb_push ?_
                refine rb_cge (fun h => absurd h (by decide)) (fun _ => ?_)
                refine rb_aload rfl ?_
                refine rb_getf (v := .ref 74) rfl ?_
                refine rb_iload rfl ?_
                refine rb_aload rfl ?_
                refine rb_getf (v := .ref 69) rfl ?_
                refine rb_iload rfl ?_
                refine rb_iald rfl (by decide) (show _ = some (0) from rfl) ?_
                refine rb_iast rfl (by decide) (ok_lt (okL.sA (okL.sA (okL.sA (okL.sA (okL.sA (okL.sA (okL.sA (okL.sA (okL.sA (okL.sA (okL.sA (okL.sA (okL.sA (okL.sA (okL.sA (okL.sA (okL.sA (okL.sA (okL.sA (okL.sA (okL.sA (okL.sA (okL.sA (okL.sA (okL.sA (okL.sA (okL.sA (okL.sA (okL.sA (okL.sA (okL.sA (okL.sA (okL.sA (okL.sA (okL.sA (okL.sA (okL.sA (okL.sA (okL.sA (okL.sA (okL.sA (okL.sA (okL.sA (okL.sA (okL.sA (okL.sA (okL.sA (okL.sA (okL.sA (okL.sA (okL.sA (okL.sA (okL.sA (okL.sA (okL.sA (okL.sA (okL.sA (okL.sA (okL.sA (okL.sA (okL.sA (okL.sA (okL.sA (okL.sA (okL.sA (okL.sA (okL.sA (okL.sA (okL.sA (okL.sA (okL.sA (okL.sA (okL.sA (okL.sA (okL.sA (okL.sA (okL.sA (okL.sA (okL.sA (okL.sA (okL.sA (okL.sA (okL.sA (okL.sA (okL.sA (okL.sA (okL.sA s1_ok _ (List.length_set ..)) _ (List.length_set ..)) _ (List.length_set ..)) _ (List.length_set ..)) _ (List.length_set ..)) _ (List.length_set ..)) _ (List.length_set ..)) _ (List.length_set ..)) _ (List.length_set ..)) _ (List.length_set ..)) _ (List.length_set ..)) _ (List.length_set ..)) _ (List.length_set ..)) _ (List.length_set ..)) _ (List.length_set ..)) _ (List.length_set ..)) _ (List.length_set ..)) _ (List.length_set ..)) _ (List.length_set ..)) _ (List.length_set ..)) _ (List.length_set ..)) _ (List.length_set ..)) _ (List.length_set ..)) _ (List.length_set ..)) _ (List.length_set ..)) _ (List.length_set ..)) _ (List.length_set ..)) _ (List.length_set ..)) _ (List.length_set ..)) _ (List.length_set ..)) _ (List.length_set ..)) _ (List.length_set ..)) _ (List.length_set ..)) _ (List.length_set ..)) _ (List.length_set ..)) _ (List.length_set ..)) _ (List.length_set ..)) _ (List.length_set ..)) _ (List.length_set ..)) _ (List.length_set ..)) _ (List.length_set ..)) _ (List.length_set ..)) _ (List.length_set ..)) _ (List.length_set ..)) _ (List.length_set ..)) _ (List.length_set ..)) _ (List.length_set ..)) _ (List.length_set ..)) _ (List.length_set ..)) _ (List.length_set ..)) _ (List.length_set ..)) _ (List.length_set ..)) _ (List.length_set ..)) _ (List.length_set ..)) _ (List.length_set ..)) _ (List.length_set ..)) _ (List.length_set ..)) _ (List.length_set ..)) _ (List.length_set ..)) _ (List.length_set ..)) _ (List.length_set ..)) _ (List.length_set ..)) _ (List.length_set ..)) _ (List.length_set ..)) _ (List.length_set ..)) _ (List.length_set ..)) _ (List.length_set ..)) _ (List.length_set ..)) _ (List.length_set ..)) _ (List.length_set ..)) _ (List.length_set ..)) _ (List.length_set ..)) _ (List.length_set ..)) _ (List.length_set ..)) _ (List.length_set ..)) _ (List.length_set ..)) _ (List.length_set ..)) _ (List.length_set ..)) _ (List.length_set ..)) _ (List.length_set ..)) _ (List.length_set ..)) _ (List.length_set ..)) _ (List.length_set ..)) _ (List.length_set ..)) _ (List.length_set ..)) _ (List.length_set ..)) _ (List.length_set ..)) (c := 74) (n := 89) (by decide) rfl (by decide) (by decide)) (wa_74 _ _) ?_
                refine rb_iinc (lv' := [some (.ref 68), some (.int 88)]) rfl rfl ?_
                refine rb_goto ?_
                refine rn_step rfl ?_
                refine rb_iload rfl ?_
                refine rb_push ?_
                refine rb_cge (fun h => absurd h (by decide)) (fun _ => ?_)
                refine rb_aload rfl ?_
                refine rb_getf (v := .ref 74) rfl ?_
                refine rb_iload rfl ?_
                refine rb_aload rfl ?_
                refine rb_getf (v := .ref 69) rfl ?_
                refine rb_iload rfl ?_
                refine rb_iald rfl (by decide) (show _ = some (0) from rfl) ?_
                refine rb_iast rfl (by decide) (ok_lt (okL.sA (okL.sA (okL.sA (okL.sA (okL.sA (okL.sA (okL.sA (okL.sA (okL.sA (okL.sA (okL.sA (okL.sA (okL.sA (okL.sA (okL.sA (okL.sA (okL.sA (okL.sA (okL.sA (okL.sA (okL.sA (okL.sA (okL.sA (okL.sA (okL.sA (okL.sA (okL.sA (okL.sA (okL.sA (okL.sA (okL.sA (okL.sA (okL.sA (okL.sA (okL.sA (okL.sA (okL.sA (okL.sA (okL.sA (okL.sA (okL.sA (okL.sA (okL.sA (okL.sA (okL.sA (okL.sA (okL.sA (okL.sA (okL.sA (okL.sA (okL.sA (okL.sA (okL.sA (okL.sA (okL.sA (okL.sA (okL.sA (okL.sA (okL.sA (okL.sA (okL.sA (okL.sA (okL.sA (okL.sA (okL.sA (okL.sA (okL.sA (okL.sA (okL.sA (okL.sA (okL.sA (okL.sA (okL.sA (okL.sA (okL.sA (okL.sA (okL.sA (okL.sA (okL.sA (okL.sA (okL.sA (okL.sA (okL.sA (okL.sA (okL.sA (okL.sA (okL.sA (okL.sA s1_ok _ (List.length_set ..)) _ (List.length_set ..)) _ (List.length_set ..)) _ (List.length_set ..)) _ (List.length_set ..)) _ (List.length_set ..)) _ (List.length_set ..)) _ (List.length_set ..)) _ (List.length_set ..)) _ (List.length_set ..)) _ (List.length_set ..)) _ (List.length_set ..)) _ (List.length_set ..)) _ (List.length_set ..)) _ (List.length_set ..)) _ (List.length_set ..)) _ (List.length_set ..)) _ (List.length_set ..)) _ (List.length_set ..)) _ (List.length_set ..)) _ (List.length_set ..)) _ (List.length_set ..)) _ (List.length_set ..)) _ (List.length_set ..)) _ (List.length_set ..)) _ (List.length_set ..)) _ (List.length_set ..)) _ (List.length_set ..)) _ (List.length_set ..)) _ (List.length_set ..)) _ (List.length_set ..)) _ (List.length_set ..)) _ (List.length_set ..)) _ (List.length_set ..)) _ (List.length_set ..)) _ (List.length_set ..)) _ (List.length_set ..)) _ (List.length_set ..)) _ (List.length_set ..)) _ (List.length_set ..)) _ (List.length_set ..)) _ (List.length_set ..)) _ (List.length_set ..)) _ (List.length_set ..)) _ (List.length_set ..)) _ (List.length_set ..)) _ (List.length_set ..)) _ (List.length_set ..)) _ (List.length_set ..)) _ (List.length_set ..)) _ (List.length_set ..)) _ (List.length_set ..)) _ (List.length_set ..)) _ (List.length_set ..)) _ (List.length_set ..)) _ (List.length_set ..)) _ (List.length_set ..)) _ (List.length_set ..)) _ (List.length_set ..)) _ (List.length_set ..)) _ (List.length_set ..)) _ (List.length_set ..)) _ (List.length_set ..)) _ (List.length_set ..)) _ (List.length_set ..)) _ (List.length_set ..)) _ (List.length_set ..)) _ (List.length_set ..)) _ (List.length_set ..)) _ (List.length_set ..)) _ (List.length_set ..)) _ (List.length_set ..)) _ (List.length_set ..)) _ (List.length_set ..)) _ (List.length_set ..)) _ (List.length_set ..)) _ (List.length_set ..)) _ (List.length_set ..)) _ (List.length_set ..)) _ (List.length_set ..)) _ (List.length_set ..)) _ (List.length_set ..)) _ (List.length_set ..)) _ (List.length_set ..)) _ (List.length_set ..)) _ (List.length_set ..)) _ (List.length_set ..)) _ (List.length_set ..)) (c := 74) (n := 89) (by decide) rfl (by decide) (by decide)) (wa_74 _ _) ?_
                refine rb_iinc (lv' := [some (.ref 68), some (.int 89)]) rfl rfl ?_
                refine rb_goto ?_
                refine rn_step rfl ?_
                refine rb_iload rfl ?_
                refine rb_push ?_
                refine rb_cge (fun _ => ?_) (fun h => absurd (by decide) h)
                refine rn_step rfl ?_
                refine rb_retv rfl
              refine rb_push ?_
              refine rb_istore (lv' := [some (.ref 68), some (.int (a)), some (.int 0), some (.int (-1)), none, none, none]) rfl ?_
              refine rb_push ?_
              refine rb_istore (lv' := [some (.ref 68), some (.int (a)), some (.int 0), some (.int (-1)), some (.int 0), none, none]) rfl ?_
              refine rb_push ?_
              refine rb_istore (lv' := [some (.ref 68), some (.int (a)), some (.int 0), some (.int (-1)), some (.int 0), some (.int 0), none]) rfl ?_
              refine rb_goto ?_
              refine rn_step rfl ?_
              refine rb_iload rfl ?_
              refine rb_aload rfl ?_
              refine rb_getf (v := .ref 69) rfl ?_
              refine rb_push ?_
              refine rb_iald rfl (by decide) (show _ = some (0) from rfl) ?_
              refine rb_cge (fun _ => ?_) (fun h => absurd (by decide) h)
              refine rn_step rfl ?_
              refine rb_iload rfl ?_
              refine rb_ige (fun h => absurd h (by decide)) (fun _ => ?_)
              refine rb_push ?_
              refine rb_goto ?_
              refine rn_step rfl ?_
              refine rb_ret rfl rfl
            case h3 => exact (okL.sA (okL.sA (okL.sA (okL.sA (okL.sA (okL.sA (okL.sA (okL.sA (okL.sA (okL.sA (okL.sA (okL.sA (okL.sA (okL.sA (okL.sA (okL.sA (okL.sA (okL.sA (okL.sA (okL.sA (okL.sA (okL.sA (okL.sA (okL.sA (okL.sA (okL.sA (okL.sA (okL.sA (okL.sA (okL.sA (okL.sA (okL.sA (okL.sA (okL.sA (okL.sA (okL.sA (okL.sA (okL.sA (okL.sA (okL.sA (okL.sA (okL.sA (okL.sA (okL.sA (okL.sA (okL.sA (okL.sA (okL.sA (okL.sA (okL.sA (okL.sA (okL.sA (okL.sA (okL.sA (okL.sA (okL.sA (okL.sA (okL.sA (okL.sA (okL.sA (okL.sA (okL.sA (okL.sA (okL.sA (okL.sA (okL.sA (okL.sA (okL.sA (okL.sA (okL.sA (okL.sA (okL.sA (okL.sA (okL.sA (okL.sA (okL.sA (okL.sA (okL.sA (okL.sA (okL.sA (okL.sA (okL.sA (okL.sA (okL.sA (okL.sA (okL.sA (okL.sA (okL.sA (okL.sA s1_ok _ (List.length_set ..)) _ (List.length_set ..)) _ (List.length_set ..)) _ (List.length_set ..)) _ (List.length_set ..)) _ (List.length_set ..)) _ (List.length_set ..)) _ (List.length_set ..)) _ (List.length_set ..)) _ (List.length_set ..)) _ (List.length_set ..)) _ (List.length_set ..)) _ (List.length_set ..)) _ (List.length_set ..)) _ (List.length_set ..)) _ (List.length_set ..)) _ (List.length_set ..)) _ (List.length_set ..)) _ (List.length_set ..)) _ (List.length_set ..)) _ (List.length_set ..)) _ (List.length_set ..)) _ (List.length_set ..)) _ (List.length_set ..)) _ (List.length_set ..)) _ (List.length_set ..)) _ (List.length_set ..)) _ (List.length_set ..)) _ (List.length_set ..)) _ (List.length_set ..)) _ (List.length_set ..)) _ (List.length_set ..)) _ (List.length_set ..)) _ (List.length_set ..)) _ (List.length_set ..)) _ (List.length_set ..)) _ (List.length_set ..)) _ (List.length_set ..)) _ (List.length_set ..)) _ (List.length_set ..)) _ (List.length_set ..)) _ (List.length_set ..)) _ (List.length_set ..)) _ (List.length_set ..)) _ (List.length_set ..)) _ (List.length_set ..)) _ (List.length_set ..)) _ (List.length_set ..)) _ (List.length_set ..)) _ (List.length_set ..)) _ (List.length_set ..)) _ (List.length_set ..)) _ (List.length_set ..)) _ (List.length_set ..)) _ (List.length_set ..)) _ (List.length_set ..)) _ (List.length_set ..)) _ (List.length_set ..)) _ (List.length_set ..)) _ (List.length_set ..)) _ (List.length_set ..)) _ (List.length_set ..)) _ (List.length_set ..)) _ (List.length_set ..)) _ (List.length_set ..)) _ (List.length_set ..)) _ (List.length_set ..)) _ (List.length_set ..)) _ (List.length_set ..)) _ (List.length_set ..)) _ (List.length_set ..)) _ (List.length_set ..)) _ (List.length_set ..)) _ (List.length_set ..)) _ (List.length_set ..)) _ (List.length_set ..)) _ (List.length_set ..)) _ (List.length_set ..)) _ (List.length_set ..)) _ (List.length_set ..)) _ (List.length_set ..)) _ (List.length_set ..)) _ (List.length_set ..)) _ (List.length_set ..)) _ (List.length_set ..)) _ (List.length_set ..)) _ (List.length_set ..)) _ (List.length_set ..)) _ (List.length_set ..))
            case h4 => exact rfl
          ·
            obtain rfl : b = 1 := ia_one hlb hhb (by decide) (by decide)
            apply p1_intro (v := (-1000000005))
            case h1 =>
              apply ex_X8_lost
              refine rn_step rfl ?_
              refine rb_iload rfl ?_
              refine rb_push ?_
              refine rb_push ?_
              apply rb_callS3
              case hcl => exact rfl
              case hc =>
                apply ex_X8_within
                refine rn_step rfl ?_
                refine rb_iload rfl ?_
                refine rb_iload rfl ?_
                refine rb_clt (fun h => absurd h (ia_nlt hla (by decide))) (fun _ => ?_)
                refine rb_iload rfl ?_
                refine rb_iload rfl ?_
                refine rb_cgt (fun h => absurd h (ia_ngt hha (by decide))) (fun _ => ?_)
                refine rb_push ?_
                refine rb_goto ?_
                refine rn_step rfl ?_
                refine rb_ret rfl rfl
              refine rb_ieq (fun h => absurd h (by decide)) (fun _ => ?_)
              refine rb_iload rfl ?_
              refine rb_push ?_
              refine rb_push ?_
              apply rb_callS3
              case hcl => exact rfl
              case hc =>
                apply ex_X8_within
                refine rn_step rfl ?_
                refine rb_iload rfl ?_
                refine rb_iload rfl ?_
                refine rb_clt (fun h => absurd h (by decide)) (fun _ => ?_)
                refine rb_iload rfl ?_
                refine rb_iload rfl ?_
                refine rb_cgt (fun h => absurd h (by decide)) (fun _ => ?_)
                refine rb_push ?_
                refine rb_goto ?_
                refine rn_step rfl ?_
                refine rb_ret rfl rfl
              refine rb_ine (fun _ => ?_) (fun h => absurd (by decide) h)
              refine rn_step rfl ?_
              refine rb_push ?_
              refine rb_istore (lv' := [some (.ref 0), some (.int (a)), some (.int 1), some (.int (-1000000005)), none, none, none]) rfl ?_
              refine rb_push ?_
              refine rb_istore (lv' := [some (.ref 0), some (.int (a)), some (.int 1), some (.int (-1000000005)), some (.int (-1000000005)), none, none]) rfl ?_
              refine rb_push ?_
              refine rb_istore (lv' := [some (.ref 0), some (.int (a)), some (.int 1), some (.int (-1000000005)), some (.int (-1000000005)), some (.int 0), none]) rfl ?_
              refine rb_goto ?_
              refine rn_step rfl ?_
              refine rb_iload rfl ?_
              refine rb_aload rfl ?_
              refine rb_getf (v := .ref 1) rfl ?_
              refine rb_getf (v := .int 0) rfl ?_
              refine rb_cge (fun _ => ?_) (fun h => absurd (by decide) h)
              refine rn_step rfl ?_
              refine rb_iload rfl ?_
              refine rb_ine (fun _ => ?_) (fun h => absurd (by decide) h)
              refine rn_step rfl ?_
              refine rb_iload rfl ?_
              refine rb_goto ?_
              refine rn_step rfl ?_
              refine rb_ret rfl rfl
            case h2 =>
              apply ex_X9_lost
              refine rn_step rfl ?_
              refine rb_iload rfl ?_
              refine rb_push ?_
              refine rb_push ?_
              apply rb_callS3
              case hcl => exact rfl
              case hc =>
                apply ex_X9_in
                refine rn_step rfl ?_
                refine rb_iload rfl ?_
                refine rb_iload rfl ?_
                refine rb_clt (fun h => absurd h (ia_nlt hla (by decide))) (fun _ => ?_)
                refine rb_iload rfl ?_
                refine rb_iload rfl ?_
                refine rb_cgt (fun h => absurd h (ia_ngt hha (by decide))) (fun _ => ?_)
                refine rb_push ?_
                refine rb_goto ?_
                refine rn_step rfl ?_
                refine rb_ret rfl rfl
              refine rb_ieq (fun h => absurd h (by decide)) (fun _ => ?_)
              refine rb_iload rfl ?_
              refine rb_push ?_
              refine rb_push ?_
              apply rb_callS3
              case hcl => exact rfl
              case hc =>
                apply ex_X9_in
                refine rn_step rfl ?_
                refine rb_iload rfl ?_
                refine rb_iload rfl ?_
                refine rb_clt (fun h => absurd h (by decide)) (fun _ => ?_)
                refine rb_iload rfl ?_
                refine rb_iload rfl ?_
                refine rb_cgt (fun h => absurd h (by decide)) (fun _ => ?_)
                refine rb_push ?_
                refine rb_goto ?_
                refine rn_step rfl ?_
                refine rb_ret rfl rfl
              refine rb_ine (fun _ => ?_) (fun h => absurd (by decide) h)
              refine rn_step rfl ?_
              refine rb_aload rfl ?_
              apply rb_callV0v
              case hb => exact rfl
              case hcl => exact rfl
              case hc =>
                apply ex_X9_thinks
                refine rn_step rfl ?_
                refine rb_push ?_
                refine rb_istore (lv' := [some (.ref 68), some (.int 0)]) rfl ?_
                refine rb_goto ?_
                refine rn_step rfl ?_
                refine rb_iload rfl ?_
                refine rb_push ?_
                refine rb_cge (fun h => absurd h (by decide)) (fun _ => ?_)
                refine rb_aload rfl ?_
                refine rb_getf (v := .ref 74) rfl ?_
                refine rb_iload rfl ?_
                refine rb_aload rfl ?_
                refine rb_getf (v := .ref 69) rfl ?_
                refine rb_iload rfl ?_
                refine rb_iald rfl (by decide) (show _ = some (1) from rfl) ?_
                refine rb_iast rfl (by decide) (ok_lt s1_ok (c := 74) (n := 89) (by decide) rfl (by decide) (by decide)) (wa_74 _ _) ?_
                refine rb_iinc (lv' := [some (.ref 68), some (.int 1)]) rfl rfl ?_
                refine rb_goto ?_
                refine rn_step rfl ?_
                refine rb_iload rfl ?_
                refine rb_push ?_
                refine rb_cge (fun h => absurd h (by decide)) (fun _ => ?_)
                refine rb_aload rfl ?_
                refine rb_getf (v := .ref 74) rfl ?_
                refine rb_iload rfl ?_
                refine rb_aload rfl ?_
                refine rb_getf (v := .ref 69) rfl ?_
                refine rb_iload rfl ?_
                refine rb_iald rfl (by decide) (show _ = some (0) from rfl) ?_
                refine rb_iast rfl (by decide) (ok_lt (okL.sA s1_ok _ (List.length_set ..)) (c := 74) (n := 89) (by decide) rfl (by decide) (by decide)) (wa_74 _ _) ?_
                refine rb_iinc (lv' := [some (.ref 68), some (.int 2)]) rfl rfl ?_
                refine rb_goto ?_
                refine rn_step rfl ?_
                refine rb_iload rfl ?_
                refine rb_push ?_
                refine rb_cge (fun h => absurd h (by decide)) (fun _ => ?_)
                refine rb_aload rfl ?_
                refine rb_getf (v := .ref 74) rfl ?_
                refine rb_iload rfl ?_
                refine rb_aload rfl ?_
                refine rb_getf (v := .ref 69) rfl ?_
                refine rb_iload rfl ?_
                refine rb_iald rfl (by decide) (show _ = some (0) from rfl) ?_
                refine rb_iast rfl (by decide) (ok_lt (okL.sA (okL.sA s1_ok _ (List.length_set ..)) _ (List.length_set ..)) (c := 74) (n := 89) (by decide) rfl (by decide) (by decide)) (wa_74 _ _) ?_
                refine rb_iinc (lv' := [some (.ref 68), some (.int 3)]) rfl rfl ?_
                refine rb_goto ?_
                refine rn_step rfl ?_
                refine rb_iload rfl ?_
                refine rb_push ?_
                refine rb_cge (fun h => absurd h (by decide)) (fun _ => ?_)
                refine rb_aload rfl ?_
                refine rb_getf (v := .ref 74) rfl ?_
                refine rb_iload rfl ?_
                refine rb_aload rfl ?_
                refine rb_getf (v := .ref 69) rfl ?_
                refine rb_iload rfl ?_
                refine rb_iald rfl (by decide) (show _ = some (0) from rfl) ?_
                refine rb_iast rfl (by decide) (ok_lt (okL.sA (okL.sA (okL.sA s1_ok _ (List.length_set ..)) _ (List.length_set ..)) _ (List.length_set ..)) (c := 74) (n := 89) (by decide) rfl (by decide) (by decide)) (wa_74 _ _) ?_
                refine rb_iinc (lv' := [some (.ref 68), some (.int 4)]) rfl rfl ?_
                refine rb_goto ?_
                refine rn_step rfl ?_
                refine rb_iload rfl ?_
                refine rb_push ?_
                refine rb_cge (fun h => absurd h (by decide)) (fun _ => ?_)
                refine rb_aload rfl ?_
                refine rb_getf (v := .ref 74) rfl ?_
                refine rb_iload rfl ?_
                refine rb_aload rfl ?_
                refine rb_getf (v := .ref 69) rfl ?_
                refine rb_iload rfl ?_
                refine rb_iald rfl (by decide) (show _ = some (0) from rfl) ?_
                refine rb_iast rfl (by decide) (ok_lt (okL.sA (okL.sA (okL.sA (okL.sA s1_ok _ (List.length_set ..)) _ (List.length_set ..)) _ (List.length_set ..)) _ (List.length_set ..)) (c := 74) (n := 89) (by decide) rfl (by decide) (by decide)) (wa_74 _ _) ?_
                refine rb_iinc (lv' := [some (.ref 68), some (.int 5)]) rfl rfl ?_
                refine rb_goto ?_
                refine rn_step rfl ?_
                refine rb_iload rfl ?_
                refine rb_push ?_
                refine rb_cge (fun h => absurd h (by decide)) (fun _ => ?_)
                refine rb_aload rfl ?_
                refine rb_getf (v := .ref 74) rfl ?_
                refine rb_iload rfl ?_
                refine rb_aload rfl ?_
                refine rb_getf (v := .ref 69) rfl ?_
                refine rb_iload rfl ?_
                refine rb_iald rfl (by decide) (show _ = some (50) from rfl) ?_
                refine rb_iast rfl (by decide) (ok_lt (okL.sA (okL.sA (okL.sA (okL.sA (okL.sA s1_ok _ (List.length_set ..)) _ (List.length_set ..)) _ (List.length_set ..)) _ (List.length_set ..)) _ (List.length_set ..)) (c := 74) (n := 89) (by decide) rfl (by decide) (by decide)) (wa_74 _ _) ?_
                refine rb_iinc (lv' := [some (.ref 68), some (.int 6)]) rfl rfl ?_
                refine rb_goto ?_
                refine rn_step rfl ?_
                refine rb_iload rfl ?_
                refine rb_push ?_
                refine rb_cge (fun h => absurd h (by decide)) (fun _ => ?_)
                refine rb_aload rfl ?_
                refine rb_getf (v := .ref 74) rfl ?_
                refine rb_iload rfl ?_
                refine rb_aload rfl ?_
                refine rb_getf (v := .ref 69) rfl ?_
                refine rb_iload rfl ?_
                refine rb_iald rfl (by decide) (show _ = some (50) from rfl) ?_
                refine rb_iast rfl (by decide) (ok_lt (okL.sA (okL.sA (okL.sA (okL.sA (okL.sA (okL.sA s1_ok _ (List.length_set ..)) _ (List.length_set ..)) _ (List.length_set ..)) _ (List.length_set ..)) _ (List.length_set ..)) _ (List.length_set ..)) (c := 74) (n := 89) (by decide) rfl (by decide) (by decide)) (wa_74 _ _) ?_
                refine rb_iinc (lv' := [some (.ref 68), some (.int 7)]) rfl rfl ?_
                refine rb_goto ?_
                refine rn_step rfl ?_
                refine rb_iload rfl ?_
                refine rb_push ?_
                refine rb_cge (fun h => absurd h (by decide)) (fun _ => ?_)
                refine rb_aload rfl ?_
                refine rb_getf (v := .ref 74) rfl ?_
                refine rb_iload rfl ?_
                refine rb_aload rfl ?_
                refine rb_getf (v := .ref 69) rfl ?_
                refine rb_iload rfl ?_
                refine rb_iald rfl (by decide) (show _ = some (50) from rfl) ?_
                refine rb_iast rfl (by decide) (ok_lt (okL.sA (okL.sA (okL.sA (okL.sA (okL.sA (okL.sA (okL.sA s1_ok _ (List.length_set ..)) _ (List.length_set ..)) _ (List.length_set ..)) _ (List.length_set ..)) _ (List.length_set ..)) _ (List.length_set ..)) _ (List.length_set ..)) (c := 74) (n := 89) (by decide) rfl (by decide) (by decide)) (wa_74 _ _) ?_
                refine rb_iinc (lv' := [some (.ref 68), some (.int 8)]) rfl rfl ?_
                refine rb_goto ?_
                refine rn_step rfl ?_
                refine rb_iload rfl ?_
                refine rb_push ?_
                refine rb_cge (fun h => absurd h (by decide)) (fun _ => ?_)
                refine rb_aload rfl ?_
                refine rb_getf (v := .ref 74) rfl ?_
                refine rb_iload rfl ?_
                refine rb_aload rfl ?_
                refine rb_getf (v := .ref 69) rfl ?_
                refine rb_iload rfl ?_
                refine rb_iald rfl (by decide) (show _ = some (50) from rfl) ?_
                refine rb_iast rfl (by decide) (ok_lt (okL.sA (okL.sA (okL.sA (okL.sA (okL.sA (okL.sA (okL.sA (okL.sA s1_ok _ (List.length_set ..)) _ (List.length_set ..)) _ (List.length_set ..)) _ (List.length_set ..)) _ (List.length_set ..)) _ (List.length_set ..)) _ (List.length_set ..)) _ (List.length_set ..)) (c := 74) (n := 89) (by decide) rfl (by decide) (by decide)) (wa_74 _ _) ?_
                refine rb_iinc (lv' := [some (.ref 68), some (.int 9)]) rfl rfl ?_
                refine rb_goto ?_
                refine rn_step rfl ?_
                refine rb_iload rfl ?_
                refine rb_push ?_
                refine rb_cge (fun h => absurd h (by decide)) (fun _ => ?_)
                refine rb_aload rfl ?_
                refine rb_getf (v := .ref 74) rfl ?_
                refine rb_iload rfl ?_
                refine rb_aload rfl ?_
                refine rb_getf (v := .ref 69) rfl ?_
                refine rb_iload rfl ?_
                refine rb_iald rfl (by decide) (show _ = some (50) from rfl) ?_
                refine rb_iast rfl (by decide) (ok_lt (okL.sA (okL.sA (okL.sA (okL.sA (okL.sA (okL.sA (okL.sA (okL.sA (okL.sA s1_ok _ (List.length_set ..)) _ (List.length_set ..)) _ (List.length_set ..)) _ (List.length_set ..)) _ (List.length_set ..)) _ (List.length_set ..)) _ (List.length_set ..)) _ (List.length_set ..)) _ (List.length_set ..)) (c := 74) (n := 89) (by decide) rfl (by decide) (by decide)) (wa_74 _ _) ?_
                refine rb_iinc (lv' := [some (.ref 68), some (.int 10)]) rfl rfl ?_
                refine rb_goto ?_
                refine rn_step rfl ?_
                refine rb_iload rfl ?_
                refine rb_push ?_
                refine rb_cge (fun h => absurd h (by decide)) (fun _ => ?_)
                refine rb_aload rfl ?_
                refine rb_getf (v := .ref 74) rfl ?_
                refine rb_iload rfl ?_
                refine rb_aload rfl ?_
                refine rb_getf (v := .ref 69) rfl ?_
                refine rb_iload rfl ?_
                refine rb_iald rfl (by decide) (show _ = some (50) from rfl) ?_
                refine rb_iast rfl (by decide) (ok_lt (okL.sA (okL.sA (okL.sA (okL.sA (okL.sA (okL.sA (okL.sA (okL.sA (okL.sA (okL.sA s1_ok _ (List.length_set ..)) _ (List.length_set ..)) _ (List.length_set ..)) _ (List.length_set ..)) _ (List.length_set ..)) _ (List.length_set ..)) _ (List.length_set ..)) _ (List.length_set ..)) _ (List.length_set ..)) _ (List.length_set ..)) (c := 74) (n := 89) (by decide) rfl (by decide) (by decide)) (wa_74 _ _) ?_
                refine rb_iinc (lv' := [some (.ref 68), some (.int 11)]) rfl rfl ?_
                refine rb_goto ?_
                refine rn_step rfl ?_
                refine rb_iload rfl ?_
                refine rb_push ?_
                refine rb_cge (fun h => absurd h (by decide)) (fun _ => ?_)
                refine rb_aload rfl ?_
                refine rb_getf (v := .ref 74) rfl ?_
                refine rb_iload rfl ?_
                refine rb_aload rfl ?_
                refine rb_getf (v := .ref 69) rfl ?_
                refine rb_iload rfl ?_
                refine rb_iald rfl (by decide) (show _ = some (50) from rfl) ?_
                refine rb_iast rfl (by decide) (ok_lt (okL.sA (okL.sA (okL.sA (okL.sA (okL.sA (okL.sA (okL.sA (okL.sA (okL.sA (okL.sA (okL.sA s1_ok _ (List.length_set ..)) _ (List.length_set ..)) _ (List.length_set ..)) _ (List.length_set ..)) _ (List.length_set ..)) _ (List.length_set ..)) _ (List.length_set ..)) _ (List.length_set ..)) _ (List.length_set ..)) _ (List.length_set ..)) _ (List.length_set ..)) (c := 74) (n := 89) (by decide) rfl (by decide) (by decide)) (wa_74 _ _) ?_
                refine rb_iinc (lv' := [some (.ref 68), some (.int 12)]) rfl rfl ?_
                refine rb_goto ?_
                refine rn_step rfl ?_
                refine rb_iload rfl ?_
                refine rb_push ?_
                refine rb_cge (fun h => absurd h (by decide)) (fun _ => ?_)
                refine rb_aload rfl ?_
                refine rb_getf (v := .ref 74) rfl ?_
                refine rb_iload rfl ?_
                refine rb_aload rfl ?_
                refine rb_getf (v := .ref 69) rfl ?_
                refine rb_iload rfl ?_
                refine rb_iald rfl (by decide) (show _ = some (50) from rfl) ?_
                refine rb_iast rfl (by decide) (ok_lt (okL.sA (okL.sA (okL.sA (okL.sA (okL.sA (okL.sA (okL.sA (okL.sA (okL.sA (okL.sA (okL.sA (okL.sA s1_ok _ (List.length_set ..)) _ (List.length_set ..)) _ (List.length_set ..)) _ (List.length_set ..)) _ (List.length_set ..)) _ (List.length_set ..)) _ (List.length_set ..)) _ (List.length_set ..)) _ (List.length_set ..)) _ (List.length_set ..)) _ (List.length_set ..)) _ (List.length_set ..)) (c := 74) (n := 89) (by decide) rfl (by decide) (by decide)) (wa_74 _ _) ?_
                refine rb_iinc (lv' := [some (.ref 68), some (.int 13)]) rfl rfl ?_
                refine rb_goto ?_
                refine rn_step rfl ?_
                refine rb_iload rfl ?_
                refine rb_push ?_
                refine rb_cge (fun h => absurd h (by decide)) (fun _ => ?_)
                refine rb_aload rfl ?_
                refine rb_getf (v := .ref 74) rfl ?_
                refine rb_iload rfl ?_
                refine rb_aload rfl ?_
                refine rb_getf (v := .ref 69) rfl ?_
                refine rb_iload rfl ?_
                refine rb_iald rfl (by decide) (show _ = some (50) from rfl) ?_
                refine rb_iast rfl (by decide) (ok_lt (okL.sA (okL.sA (okL.sA (okL.sA (okL.sA (okL.sA (okL.sA (okL.sA (okL.sA (okL.sA (okL.sA (okL.sA (okL.sA s1_ok _ (List.length_set ..)) _ (List.length_set ..)) _ (List.length_set ..)) _ (List.length_set ..)) _ (List.length_set ..)) _ (List.length_set ..)) _ (List.length_set ..)) _ (List.length_set ..)) _ (List.length_set ..)) _ (List.length_set ..)) _ (List.length_set ..)) _ (List.length_set ..)) _ (List.length_set ..)) (c := 74) (n := 89) (by decide) rfl (by decide) (by decide)) (wa_74 _ _) ?_
                refine rb_iinc (lv' := [some (.ref 68), some (.int 14)]) rfl rfl ?_
                refine rb_goto ?_
                refine rn_step rfl ?_
                refine rb_iload rfl ?_
                refine rb_push ?_
                refine rb_cge (fun h => absurd h (by decide)) (fun _ => ?_)
                refine rb_aload rfl ?_
                refine rb_getf (v := .ref 74) rfl ?_
                refine rb_iload rfl ?_
                refine rb_aload rfl ?_
                refine rb_getf (v := .ref 69) rfl ?_
                refine rb_iload rfl ?_
                refine rb_iald rfl (by decide) (show _ = some (50) from rfl) ?_
                refine rb_iast rfl (by decide) (ok_lt (okL.sA (okL.sA (okL.sA (okL.sA (okL.sA (okL.sA (okL.sA (okL.sA (okL.sA (okL.sA (okL.sA (okL.sA (okL.sA (okL.sA s1_ok _ (List.length_set ..)) _ (List.length_set ..)) _ (List.length_set ..)) _ (List.length_set ..)) _ (List.length_set ..)) _ (List.length_set ..)) _ (List.length_set ..)) _ (List.length_set ..)) _ (List.length_set ..)) _ (List.length_set ..)) _ (List.length_set ..)) _ (List.length_set ..)) _ (List.length_set ..)) _ (List.length_set ..)) (c := 74) (n := 89) (by decide) rfl (by decide) (by decide)) (wa_74 _ _) ?_
                refine rb_iinc (lv' := [some (.ref 68), some (.int 15)]) rfl rfl ?_
                refine rb_goto ?_
                refine rn_step rfl ?_
                refine rb_iload rfl ?_
                refine rb_push ?_
                refine rb_cge (fun h => absurd h (by decide)) (fun _ => ?_)
                refine rb_aload rfl ?_
                refine rb_getf (v := .ref 74) rfl ?_
                refine rb_iload rfl ?_
                refine rb_aload rfl ?_
                refine rb_getf (v := .ref 69) rfl ?_
                refine rb_iload rfl ?_
                refine rb_iald rfl (by decide) (show _ = some (50) from rfl) ?_
                refine rb_iast rfl (by decide) (ok_lt (okL.sA (okL.sA (okL.sA (okL.sA (okL.sA (okL.sA (okL.sA (okL.sA (okL.sA (okL.sA (okL.sA (okL.sA (okL.sA (okL.sA (okL.sA s1_ok _ (List.length_set ..)) _ (List.length_set ..)) _ (List.length_set ..)) _ (List.length_set ..)) _ (List.length_set ..)) _ (List.length_set ..)) _ (List.length_set ..)) _ (List.length_set ..)) _ (List.length_set ..)) _ (List.length_set ..)) _ (List.length_set ..)) _ (List.length_set ..)) _ (List.length_set ..)) _ (List.length_set ..)) _ (List.length_set ..)) (c := 74) (n := 89) (by decide) rfl (by decide) (by decide)) (wa_74 _ _) ?_
                refine rb_iinc (lv' := [some (.ref 68), some (.int 16)]) rfl rfl ?_
                refine rb_goto ?_
                refine rn_step rfl ?_
                refine rb_iload rfl ?_
                refine rb_push ?_
                refine rb_cge (fun h => absurd h (by decide)) (fun _ => ?_)
                refine rb_aload rfl ?_
                refine rb_getf (v := .ref 74) rfl ?_
                refine rb_iload rfl ?_
                refine rb_aload rfl ?_
                refine rb_getf (v := .ref 69) rfl ?_
                refine rb_iload rfl ?_
                refine rb_iald rfl (by decide) (show _ = some (50) from rfl) ?_
                refine rb_iast rfl (by decide) (ok_lt (okL.sA (okL.sA (okL.sA (okL.sA (okL.sA (okL.sA (okL.sA (okL.sA (okL.sA (okL.sA (okL.sA (okL.sA (okL.sA (okL.sA (okL.sA (okL.sA s1_ok _ (List.length_set ..)) _ (List.length_set ..)) _ (List.length_set ..)) _ (List.length_set ..)) _ (List.length_set ..)) _ (List.length_set ..)) _ (List.length_set ..)) _ (List.length_set ..)) _ (List.length_set ..)) _ (List.length_set ..)) _ (List.length_set ..)) _ (List.length_set ..)) _ (List.length_set ..)) _ (List.length_set ..)) _ (List.length_set ..)) _ (List.length_set ..)) (c := 74) (n := 89) (by decide) rfl (by decide) (by decide)) (wa_74 _ _) ?_
                refine rb_iinc (lv' := [some (.ref 68), some (.int 17)]) rfl rfl ?_
                refine rb_goto ?_
                refine rn_step rfl ?_
                refine rb_iload rfl ?_
                refine rb_push ?_
                refine rb_cge (fun h => absurd h (by decide)) (fun _ => ?_)
                refine rb_aload rfl ?_
                refine rb_getf (v := .ref 74) rfl ?_
                refine rb_iload rfl ?_
                refine rb_aload rfl ?_
                refine rb_getf (v := .ref 69) rfl ?_
                refine rb_iload rfl ?_
                refine rb_iald rfl (by decide) (show _ = some (50) from rfl) ?_
                refine rb_iast rfl (by decide) (ok_lt (okL.sA (okL.sA (okL.sA (okL.sA (okL.sA (okL.sA (okL.sA (okL.sA (okL.sA (okL.sA (okL.sA (okL.sA (okL.sA (okL.sA (okL.sA (okL.sA (okL.sA s1_ok _ (List.length_set ..)) _ (List.length_set ..)) _ (List.length_set ..)) _ (List.length_set ..)) _ (List.length_set ..)) _ (List.length_set ..)) _ (List.length_set ..)) _ (List.length_set ..)) _ (List.length_set ..)) _ (List.length_set ..)) _ (List.length_set ..)) _ (List.length_set ..)) _ (List.length_set ..)) _ (List.length_set ..)) _ (List.length_set ..)) _ (List.length_set ..)) _ (List.length_set ..)) (c := 74) (n := 89) (by decide) rfl (by decide) (by decide)) (wa_74 _ _) ?_
                refine rb_iinc (lv' := [some (.ref 68), some (.int 18)]) rfl rfl ?_
                refine rb_goto ?_
                refine rn_step rfl ?_
                refine rb_iload rfl ?_
                refine rb_push ?_
                refine rb_cge (fun h => absurd h (by decide)) (fun _ => ?_)
                refine rb_aload rfl ?_
                refine rb_getf (v := .ref 74) rfl ?_
                refine rb_iload rfl ?_
                refine rb_aload rfl ?_
                refine rb_getf (v := .ref 69) rfl ?_
                refine rb_iload rfl ?_
                refine rb_iald rfl (by decide) (show _ = some (50) from rfl) ?_
                refine rb_iast rfl (by decide) (ok_lt (okL.sA (okL.sA (okL.sA (okL.sA (okL.sA (okL.sA (okL.sA (okL.sA (okL.sA (okL.sA (okL.sA (okL.sA (okL.sA (okL.sA (okL.sA (okL.sA (okL.sA (okL.sA s1_ok _ (List.length_set ..)) _ (List.length_set ..)) _ (List.length_set ..)) _ (List.length_set ..)) _ (List.length_set ..)) _ (List.length_set ..)) _ (List.length_set ..)) _ (List.length_set ..)) _ (List.length_set ..)) _ (List.length_set ..)) _ (List.length_set ..)) _ (List.length_set ..)) _ (List.length_set ..)) _ (List.length_set ..)) _ (List.length_set ..)) _ (List.length_set ..)) _ (List.length_set ..)) _ (List.length_set ..)) (c := 74) (n := 89) (by decide) rfl (by decide) (by decide)) (wa_74 _ _) ?_
                refine rb_iinc (lv' := [some (.ref 68), some (.int 19)]) rfl rfl ?_
                refine rb_goto ?_
                refine rn_step rfl ?_
                refine rb_iload rfl ?_
                refine rb_push ?_
                refine rb_cge (fun h => absurd h (by decide)) (fun _ => ?_)
                refine rb_aload rfl ?_
                refine rb_getf (v := .ref 74) rfl ?_
                refine rb_iload rfl ?_
                refine rb_aload rfl ?_
                refine rb_getf (v := .ref 69) rfl ?_
                refine rb_iload rfl ?_
                refine rb_iald rfl (by decide) (show _ = some (50) from rfl) ?_
                refine rb_iast rfl (by decide) (ok_lt (okL.sA (okL.sA (okL.sA (okL.sA (okL.sA (okL.sA (okL.sA (okL.sA (okL.sA (okL.sA (okL.sA (okL.sA (okL.sA (okL.sA (okL.sA (okL.sA (okL.sA (okL.sA (okL.sA s1_ok _ (List.length_set ..)) _ (List.length_set ..)) _ (List.length_set ..)) _ (List.length_set ..)) _ (List.length_set ..)) _ (List.length_set ..)) _ (List.length_set ..)) _ (List.length_set ..)) _ (List.length_set ..)) _ (List.length_set ..)) _ (List.length_set ..)) _ (List.length_set ..)) _ (List.length_set ..)) _ (List.length_set ..)) _ (List.length_set ..)) _ (List.length_set ..)) _ (List.length_set ..)) _ (List.length_set ..)) _ (List.length_set ..)) (c := 74) (n := 89) (by decide) rfl (by decide) (by decide)) (wa_74 _ _) ?_
                refine rb_iinc (lv' := [some (.ref 68), some (.int 20)]) rfl rfl ?_
                refine rb_goto ?_
                refine rn_step rfl ?_
                refine rb_iload rfl ?_
                refine rb_push ?_
                refine rb_cge (fun h => absurd h (by decide)) (fun _ => ?_)
                refine rb_aload rfl ?_
                refine rb_getf (v := .ref 74) rfl ?_
                refine rb_iload rfl ?_
                refine rb_aload rfl ?_
                refine rb_getf (v := .ref 69) rfl ?_
                refine rb_iload rfl ?_
                refine rb_iald rfl (by decide) (show _ = some (50) from rfl) ?_
                refine rb_iast rfl (by decide) (ok_lt (okL.sA (okL.sA (okL.sA (okL.sA (okL.sA (okL.sA (okL.sA (okL.sA (okL.sA (okL.sA (okL.sA (okL.sA (okL.sA (okL.sA (okL.sA (okL.sA (okL.sA (okL.sA (okL.sA (okL.sA s1_ok _ (List.length_set ..)) _ (List.length_set ..)) _ (List.length_set ..)) _ (List.length_set ..)) _ (List.length_set ..)) _ (List.length_set ..)) _ (List.length_set ..)) _ (List.length_set ..)) _ (List.length_set ..)) _ (List.length_set ..)) _ (List.length_set ..)) _ (List.length_set ..)) _ (List.length_set ..)) _ (List.length_set ..)) _ (List.length_set ..)) _ (List.length_set ..)) _ (List.length_set ..)) _ (List.length_set ..)) _ (List.length_set ..)) _ (List.length_set ..)) (c := 74) (n := 89) (by decide) rfl (by decide) (by decide)) (wa_74 _ _) ?_
                refine rb_iinc (lv' := [some (.ref 68), some (.int 21)]) rfl rfl ?_
                refine rb_goto ?_
                refine rn_step rfl ?_
                refine rb_iload rfl ?_
                refine rb_push ?_
                refine rb_cge (fun h => absurd h (by decide)) (fun _ => ?_)
                refine rb_aload rfl ?_
                refine rb_getf (v := .ref 74) rfl ?_
                refine rb_iload rfl ?_
                refine rb_aload rfl ?_
                refine rb_getf (v := .ref 69) rfl ?_
                refine rb_iload rfl ?_
                refine rb_iald rfl (by decide) (show _ = some (50) from rfl) ?_
                refine rb_iast rfl (by decide) (ok_lt (okL.sA (okL.sA (okL.sA (okL.sA (okL.sA (okL.sA (okL.sA (okL.sA (okL.sA (okL.sA (okL.sA (okL.sA (okL.sA (okL.sA (okL.sA (okL.sA (okL.sA (okL.sA (okL.sA (okL.sA (okL.sA s1_ok _ (List.length_set ..)) _ (List.length_set ..)) _ (List.length_set ..)) _ (List.length_set ..)) _ (List.length_set ..)) _ (List.length_set ..)) _ (List.length_set ..)) _ (List.length_set ..)) _ (List.length_set ..)) _ (List.length_set ..)) _ (List.length_set ..)) _ (List.length_set ..)) _ (List.length_set ..)) _ (List.length_set ..)) _ (List.length_set ..)) _ (List.length_set ..)) _ (List.length_set ..)) _ (List.length_set ..)) _ (List.length_set ..)) _ (List.length_set ..)) _ (List.length_set ..)) (c := 74) (n := 89) (by decide) rfl (by decide) (by decide)) (wa_74 _ _) ?_
                refine rb_iinc (lv' := [some (.ref 68), some (.int 22)]) rfl rfl ?_
                refine rb_goto ?_
                refine rn_step rfl ?_
                refine rb_iload rfl ?_
                refine rb_push ?_
                refine rb_cge (fun h => absurd h (by decide)) (fun _ => ?_)
                refine rb_aload rfl ?_
                refine rb_getf (v := .ref 74) rfl ?_
                refine rb_iload rfl ?_
                refine rb_aload rfl ?_
                refine rb_getf (v := .ref 69) rfl ?_
                refine rb_iload rfl ?_
                refine rb_iald rfl (by decide) (show _ = some (50) from rfl) ?_
                refine rb_iast rfl (by decide) (ok_lt (okL.sA (okL.sA (okL.sA (okL.sA (okL.sA (okL.sA (okL.sA (okL.sA (okL.sA (okL.sA (okL.sA (okL.sA (okL.sA (okL.sA (okL.sA (okL.sA (okL.sA (okL.sA (okL.sA (okL.sA (okL.sA (okL.sA s1_ok _ (List.length_set ..)) _ (List.length_set ..)) _ (List.length_set ..)) _ (List.length_set ..)) _ (List.length_set ..)) _ (List.length_set ..)) _ (List.length_set ..)) _ (List.length_set ..)) _ (List.length_set ..)) _ (List.length_set ..)) _ (List.length_set ..)) _ (List.length_set ..)) _ (List.length_set ..)) _ (List.length_set ..)) _ (List.length_set ..)) _ (List.length_set ..)) _ (List.length_set ..)) _ (List.length_set ..)) _ (List.length_set ..)) _ (List.length_set ..)) _ (List.length_set ..)) _ (List.length_set ..)) (c := 74) (n := 89) (by decide) rfl (by decide) (by decide)) (wa_74 _ _) ?_
                refine rb_iinc (lv' := [some (.ref 68), some (.int 23)]) rfl rfl ?_
                refine rb_goto ?_
                refine rn_step rfl ?_
                refine rb_iload rfl ?_
                refine rb_push ?_
                refine rb_cge (fun h => absurd h (by decide)) (fun _ => ?_)
                refine rb_aload rfl ?_
                refine rb_getf (v := .ref 74) rfl ?_
                refine rb_iload rfl ?_
                refine rb_aload rfl ?_
                refine rb_getf (v := .ref 69) rfl ?_
                refine rb_iload rfl ?_
                refine rb_iald rfl (by decide) (show _ = some (50) from rfl) ?_
                refine rb_iast rfl (by decide) (ok_lt (okL.sA (okL.sA (okL.sA (okL.sA (okL.sA (okL.sA (okL.sA (okL.sA (okL.sA (okL.sA (okL.sA (okL.sA (okL.sA (okL.sA (okL.sA (okL.sA (okL.sA (okL.sA (okL.sA (okL.sA (okL.sA (okL.sA (okL.sA s1_ok _ (List.length_set ..)) _ (List.length_set ..)) _ (List.length_set ..)) _ (List.length_set ..)) _ (List.length_set ..)) _ (List.length_set ..)) _ (List.length_set ..)) _ (List.length_set ..)) _ (List.length_set ..)) _ (List.length_set ..)) _ (List.length_set ..)) _ (List.length_set ..)) _ (List.length_set ..)) _ (List.length_set ..)) _ (List.length_set ..)) _ (List.length_set ..)) _ (List.length_set ..)) _ (List.length_set ..)) _ (List.length_set ..)) _ (List.length_set ..)) _ (List.length_set ..)) _ (List.length_set ..)) _ (List.length_set ..)) (c := 74) (n := 89) (by decide) rfl (by decide) (by decide)) (wa_74 _ _) ?_
                refine rb_iinc (lv' := [some (.ref 68), some (.int 24)]) rfl rfl ?_
                refine rb_goto ?_
                refine rn_step rfl ?_
                refine rb_iload rfl ?_
                refine rb_push ?_
                refine rb_cge (fun h => absurd h (by decide)) (fun _ => ?_)
                refine rb_aload rfl ?_
                refine rb_getf (v := .ref 74) rfl ?_
                refine rb_iload rfl ?_
                refine rb_aload rfl ?_
                refine rb_getf (v := .ref 69) rfl ?_
                refine rb_iload rfl ?_
                refine rb_iald rfl (by decide) (show _ = some (50) from rfl) ?_
                refine rb_iast rfl (by decide) (ok_lt (okL.sA (okL.sA (okL.sA (okL.sA (okL.sA (okL.sA (okL.sA (okL.sA (okL.sA (okL.sA (okL.sA (okL.sA (okL.sA (okL.sA (okL.sA (okL.sA (okL.sA (okL.sA (okL.sA (okL.sA (okL.sA (okL.sA (okL.sA (okL.sA s1_ok _ (List.length_set ..)) _ (List.length_set ..)) _ (List.length_set ..)) _ (List.length_set ..)) _ (List.length_set ..)) _ (List.length_set ..)) _ (List.length_set ..)) _ (List.length_set ..)) _ (List.length_set ..)) _ (List.length_set ..)) _ (List.length_set ..)) _ (List.length_set ..)) _ (List.length_set ..)) _ (List.length_set ..)) _ (List.length_set ..)) _ (List.length_set ..)) _ (List.length_set ..)) _ (List.length_set ..)) _ (List.length_set ..)) _ (List.length_set ..)) _ (List.length_set ..)) _ (List.length_set ..)) _ (List.length_set ..)) _ (List.length_set ..)) (c := 74) (n := 89) (by decide) rfl (by decide) (by decide)) (wa_74 _ _) ?_
                refine rb_iinc (lv' := [some (.ref 68), some (.int 25)]) rfl rfl ?_
                refine rb_goto ?_
                refine rn_step rfl ?_
                refine rb_iload rfl ?_
                refine rb_push ?_
                refine rb_cge (fun h => absurd h (by decide)) (fun _ => ?_)
                refine rb_aload rfl ?_
                refine rb_getf (v := .ref 74) rfl ?_
                refine rb_iload rfl ?_
                refine rb_aload rfl ?_
                refine rb_getf (v := .ref 69) rfl ?_
                refine rb_iload rfl ?_
                refine rb_iald rfl (by decide) (show _ = some (50) from rfl) ?_
                refine rb_iast rfl (by decide) (ok_lt (okL.sA (okL.sA (okL.sA (okL.sA (okL.sA (okL.sA (okL.sA (okL.sA (okL.sA (okL.sA (okL.sA (okL.sA (okL.sA (okL.sA (okL.sA (okL.sA (okL.sA (okL.sA (okL.sA (okL.sA (okL.sA (okL.sA (okL.sA (okL.sA (okL.sA s1_ok _ (List.length_set ..)) _ (List.length_set ..)) _ (List.length_set ..)) _ (List.length_set ..)) _ (List.length_set ..)) _ (List.length_set ..)) _ (List.length_set ..)) _ (List.length_set ..)) _ (List.length_set ..)) _ (List.length_set ..)) _ (List.length_set ..)) _ (List.length_set ..)) _ (List.length_set ..)) _ (List.length_set ..)) _ (List.length_set ..)) _ (List.length_set ..)) _ (List.length_set ..)) _ (List.length_set ..)) _ (List.length_set ..)) _ (List.length_set ..)) _ (List.length_set ..)) _ (List.length_set ..)) _ (List.length_set ..)) _ (List.length_set ..)) _ (List.length_set ..)) (c := 74) (n := 89) (by decide) rfl (by decide) (by decide)) (wa_74 _ _) ?_
                refine rb_iinc (lv' := [some (.ref 68), some (.int 26)]) rfl rfl ?_
                refine rb_goto ?_
                refine rn_step rfl ?_
                refine rb_iload rfl ?_
                refine rb_push ?_
                refine rb_cge (fun h => absurd h (by decide)) (fun _ => ?_)
                refine rb_aload rfl ?_
                refine rb_getf (v := .ref 74) rfl ?_
                refine rb_iload rfl ?_
                refine rb_aload rfl ?_
                refine rb_getf (v := .ref 69) rfl ?_
                refine rb_iload rfl ?_
                refine rb_iald rfl (by decide) (show _ = some (50) from rfl) ?_
                refine rb_iast rfl (by decide) (ok_lt (okL.sA (okL.sA (okL.sA (okL.sA (okL.sA (okL.sA (okL.sA (okL.sA (okL.sA (okL.sA (okL.sA (okL.sA (okL.sA (okL.sA (okL.sA (okL.sA (okL.sA (okL.sA (okL.sA (okL.sA (okL.sA (okL.sA (okL.sA (okL.sA (okL.sA (okL.sA s1_ok _ (List.length_set ..)) _ (List.length_set ..)) _ (List.length_set ..)) _ (List.length_set ..)) _ (List.length_set ..)) _ (List.length_set ..)) _ (List.length_set ..)) _ (List.length_set ..)) _ (List.length_set ..)) _ (List.length_set ..)) _ (List.length_set ..)) _ (List.length_set ..)) _ (List.length_set ..)) _ (List.length_set ..)) _ (List.length_set ..)) _ (List.length_set ..)) _ (List.length_set ..)) _ (List.length_set ..)) _ (List.length_set ..)) _ (List.length_set ..)) _ (List.length_set ..)) _ (List.length_set ..)) _ (List.length_set ..)) _ (List.length_set ..)) _ (List.length_set ..)) _ (List.length_set ..)) (c := 74) (n := 89) (by decide) rfl (by decide) (by decide)) (wa_74 _ _) ?_
                refine rb_iinc (lv' := [some (.ref 68), some (.int 27)]) rfl rfl ?_
                refine rb_goto ?_
                refine rn_step rfl ?_
                refine rb_iload rfl ?_
                refine rb_push ?_
                refine rb_cge (fun h => absurd h (by decide)) (fun _ => ?_)
                refine rb_aload rfl ?_
                refine rb_getf (v := .ref 74) rfl ?_
                refine rb_iload rfl ?_
                refine rb_aload rfl ?_
                refine rb_getf (v := .ref 69) rfl ?_
                refine rb_iload rfl ?_
                refine rb_iald rfl (by decide) (show _ = some (50) from rfl) ?_
                refine rb_iast rfl (by decide) (ok_lt (okL.sA (okL.sA (okL.sA (okL.sA (okL.sA (okL.sA (okL.sA (okL.sA (okL.sA (okL.sA (okL.sA (okL.sA (okL.sA (okL.sA (okL.sA (okL.sA (okL.sA (okL.sA (okL.sA (okL.sA (okL.sA (okL.sA (okL.sA (okL.sA (okL.sA (okL.sA (okL.sA s1_ok _ (List.length_set ..)) _ (List.length_set ..)) _ (List.length_set ..)) _ (List.length_set ..)) _ (List.length_set ..)) _ (List.length_set ..)) _ (List.length_set ..)) _ (List.length_set ..)) _ (List.length_set ..)) _ (List.length_set ..)) _ (List.length_set ..)) _ (List.length_set ..)) _ (List.length_set ..)) _ (List.length_set ..)) _ (List.length_set ..)) _ (List.length_set ..)) _ (List.length_set ..)) _ (List.length_set ..)) _ (List.length_set ..)) _ (List.length_set ..)) _ (List.length_set ..)) _ (List.length_set ..)) _ (List.length_set ..)) _ (List.length_set ..)) _ (List.length_set ..)) _ (List.length_set ..)) _ (List.length_set ..)) (c := 74) (n := 89) (by decide) rfl (by decide) (by decide)) (wa_74 _ _) ?_
                refine rb_iinc (lv' := [some (.ref 68), some (.int 28)]) rfl rfl ?_
                refine rb_goto ?_
                refine rn_step rfl ?_
                refine rb_iload rfl ?_
                refine rb_push ?_
                refine rb_cge (fun h => absurd h (by decide)) (fun _ => ?_)
                refine rb_aload rfl ?_
                refine rb_getf (v := .ref 74) rfl ?_
                refine rb_iload rfl ?_
                refine rb_aload rfl ?_
                refine rb_getf (v := .ref 69) rfl ?_
                refine rb_iload rfl ?_
                refine rb_iald rfl (by decide) (show _ = some (50) from rfl) ?_
                refine rb_iast rfl (by decide) (ok_lt (okL.sA (okL.sA (okL.sA (okL.sA (okL.sA (okL.sA (okL.sA (okL.sA (okL.sA (okL.sA (okL.sA (okL.sA (okL.sA (okL.sA (okL.sA (okL.sA (okL.sA (okL.sA (okL.sA (okL.sA (okL.sA (okL.sA (okL.sA (okL.sA (okL.sA (okL.sA (okL.sA (okL.sA s1_ok _ (List.length_set ..)) _ (List.length_set ..)) _ (List.length_set ..)) _ (List.length_set ..)) _ (List.length_set ..)) _ (List.length_set ..)) _ (List.length_set ..)) _ (List.length_set ..)) _ (List.length_set ..)) _ (List.length_set ..)) _ (List.length_set ..)) _ (List.length_set ..)) _ (List.length_set ..)) _ (List.length_set ..)) _ (List.length_set ..)) _ (List.length_set ..)) _ (List.length_set ..)) _ (List.length_set ..)) _ (List.length_set ..)) _ (List.length_set ..)) _ (List.length_set ..)) _ (List.length_set ..)) _ (List.length_set ..)) _ (List.length_set ..)) _ (List.length_set ..)) _ (List.length_set ..)) _ (List.length_set ..)) _ (List.length_set ..)) (c := 74) (n := 89) (by decide) rfl (by decide) (by decide)) (wa_74 _ _) ?_
                refine rb_iinc (lv' := [some (.ref 68), some (.int 29)]) rfl rfl ?_
                refine rb_goto ?_
                refine rn_step rfl ?_
                refine rb_iload rfl ?_
                refine rb_push ?_
                refine rb_cge (fun h => absurd h (by decide)) (fun _ => ?_)
                refine rb_aload rfl ?_
                refine rb_getf (v := .ref 74) rfl ?_
                refine rb_iload rfl ?_
                refine rb_aload rfl ?_
                refine rb_getf (v := .ref 69) rfl ?_
                refine rb_iload rfl ?_
                refine rb_iald rfl (by decide) (show _ = some (0) from rfl) ?_
                refine rb_iast rfl (by decide) (ok_lt (okL.sA (okL.sA (okL.sA (okL.sA (okL.sA (okL.sA (okL.sA (okL.sA (okL.sA (okL.sA (okL.sA (okL.sA (okL.sA (okL.sA (okL.sA (okL.sA (okL.sA (okL.sA (okL.sA (okL.sA (okL.sA (okL.sA (okL.sA (okL.sA (okL.sA (okL.sA (okL.sA (okL.sA (okL.sA s1_ok _ (List.length_set ..)) _ (List.length_set ..)) _ (List.length_set ..)) _ (List.length_set ..)) _ (List.length_set ..)) _ (List.length_set ..)) _ (List.length_set ..)) _ (List.length_set ..)) _ (List.length_set ..)) _ (List.length_set ..)) _ (List.length_set ..)) _ (List.length_set ..)) _ (List.length_set ..)) _ (List.length_set ..)) _ (List.length_set ..)) _ (List.length_set ..)) _ (List.length_set ..)) _ (List.length_set ..)) _ (List.length_set ..)) _ (List.length_set ..)) _ (List.length_set ..)) _ (List.length_set ..)) _ (List.length_set ..)) _ (List.length_set ..)) _ (List.length_set ..)) _ (List.length_set ..)) _ (List.length_set ..)) _ (List.length_set ..)) _ (List.length_set ..)) (c := 74) (n := 89) (by decide) rfl (by decide) (by decide)) (wa_74 _ _) ?_
                refine rb_iinc (lv' := [some (.ref 68), some (.int 30)]) rfl rfl ?_
                refine rb_goto ?_
                refine rn_step rfl ?_
                refine rb_iload rfl ?_
                refine rb_push ?_
                refine rb_cge (fun h => absurd h (by decide)) (fun _ => ?_)
                refine rb_aload rfl ?_
                refine rb_getf (v := .ref 74) rfl ?_
                refine rb_iload rfl ?_
                refine rb_aload rfl ?_
                refine rb_getf (v := .ref 69) rfl ?_
                refine rb_iload rfl ?_
                refine rb_iald rfl (by decide) (show _ = some (0) from rfl) ?_
                refine rb_iast rfl (by decide) (ok_lt (okL.sA (okL.sA (okL.sA (okL.sA (okL.sA (okL.sA (okL.sA (okL.sA (okL.sA (okL.sA (okL.sA (okL.sA (okL.sA (okL.sA (okL.sA (okL.sA (okL.sA (okL.sA (okL.sA (okL.sA (okL.sA (okL.sA (okL.sA (okL.sA (okL.sA (okL.sA (okL.sA (okL.sA (okL.sA (okL.sA s1_ok _ (List.length_set ..)) _ (List.length_set ..)) _ (List.length_set ..)) _ (List.length_set ..)) _ (List.length_set ..)) _ (List.length_set ..)) _ (List.length_set ..)) _ (List.length_set ..)) _ (List.length_set ..)) _ (List.length_set ..)) _ (List.length_set ..)) _ (List.length_set ..)) _ (List.length_set ..)) _ (List.length_set ..)) _ (List.length_set ..)) _ (List.length_set ..)) _ (List.length_set ..)) _ (List.length_set ..)) _ (List.length_set ..)) _ (List.length_set ..)) _ (List.length_set ..)) _ (List.length_set ..)) _ (List.length_set ..)) _ (List.length_set ..)) _ (List.length_set ..)) _ (List.length_set ..)) _ (List.length_set ..)) _ (List.length_set ..)) _ (List.length_set ..)) _ (List.length_set ..)) (c := 74) (n := 89) (by decide) rfl (by decide) (by decide)) (wa_74 _ _) ?_
                refine rb_iinc (lv' := [some (.ref 68), some (.int 31)]) rfl rfl ?_
                refine rb_goto ?_
                refine rn_step rfl ?_
                refine rb_iload rfl ?_
                refine rb_push ?_
                refine rb_cge (fun h => absurd h (by decide)) (fun _ => ?_)
                refine rb_aload rfl ?_
                refine rb_getf (v := .ref 74) rfl ?_
                refine rb_iload rfl ?_
                refine rb_aload rfl ?_
                refine rb_getf (v := .ref 69) rfl ?_
                refine rb_iload rfl ?_
                refine rb_iald rfl (by decide) (show _ = some (0) from rfl) ?_
                refine rb_iast rfl (by decide) (ok_lt (okL.sA (okL.sA (okL.sA (okL.sA (okL.sA (okL.sA (okL.sA (okL.sA (okL.sA (okL.sA (okL.sA (okL.sA (okL.sA (okL.sA (okL.sA (okL.sA (okL.sA (okL.sA (okL.sA (okL.sA (okL.sA (okL.sA (okL.sA (okL.sA (okL.sA (okL.sA (okL.sA (okL.sA (okL.sA (okL.sA (okL.sA s1_ok _ (List.length_set ..)) _ (List.length_set ..)) _ (List.length_set ..)) _ (List.length_set ..)) _ (List.length_set ..)) _ (List.length_set ..)) _ (List.length_set ..)) _ (List.length_set ..)) _ (List.length_set ..)) _ (List.length_set ..)) _ (List.length_set ..)) _ (List.length_set ..)) _ (List.length_set ..)) _ (List.length_set ..)) _ (List.length_set ..)) _ (List.length_set ..)) _ (List.length_set ..)) _ (List.length_set ..)) _ (List.length_set ..)) _ (List.length_set ..)) _ (List.length_set ..)) _ (List.length_set ..)) _ (List.length_set ..)) _ (List.length_set ..)) _ (List.length_set ..)) _ (List.length_set ..)) _ (List.length_set ..)) _ (List.length_set ..)) _ (List.length_set ..)) _ (List.length_set ..)) _ (List.length_set ..)) (c := 74) (n := 89) (by decide) rfl (by decide) (by decide)) (wa_74 _ _) ?_
                refine rb_iinc (lv' := [some (.ref 68), some (.int 32)]) rfl rfl ?_
                refine rb_goto ?_
                refine rn_step rfl ?_
                refine rb_iload rfl ?_
                refine rb_push ?_
                refine rb_cge (fun h => absurd h (by decide)) (fun _ => ?_)
                refine rb_aload rfl ?_
                refine rb_getf (v := .ref 74) rfl ?_
                refine rb_iload rfl ?_
                refine rb_aload rfl ?_
                refine rb_getf (v := .ref 69) rfl ?_
                refine rb_iload rfl ?_
                refine rb_iald rfl (by decide) (show _ = some (0) from rfl) ?_
                refine rb_iast rfl (by decide) (ok_lt (okL.sA (okL.sA (okL.sA (okL.sA (okL.sA (okL.sA (okL.sA (okL.sA (okL.sA (okL.sA (okL.sA (okL.sA (okL.sA (okL.sA (okL.sA (okL.sA (okL.sA (okL.sA (okL.sA (okL.sA (okL.sA (okL.sA (okL.sA (okL.sA (okL.sA (okL.sA (okL.sA (okL.sA (okL.sA (okL.sA (okL.sA (okL.sA s1_ok _ (List.length_set ..)) _ (List.length_set ..)) _ (List.length_set ..)) _ (List.length_set ..)) _ (List.length_set ..)) _ (List.length_set ..)) _ (List.length_set ..)) _ (List.length_set ..)) _ (List.length_set ..)) _ (List.length_set ..)) _ (List.length_set ..)) _ (List.length_set ..)) _ (List.length_set ..)) _ (List.length_set ..)) _ (List.length_set ..)) _ (List.length_set ..)) _ (List.length_set ..)) _ (List.length_set ..)) _ (List.length_set ..)) _ (List.length_set ..)) _ (List.length_set ..)) _ (List.length_set ..)) _ (List.length_set ..)) _ (List.length_set ..)) _ (List.length_set ..)) _ (List.length_set ..)) _ (List.length_set ..)) _ (List.length_set ..)) _ (List.length_set ..)) _ (List.length_set ..)) _ (List.length_set ..)) _ (List.length_set ..)) (c := 74) (n := 89) (by decide) rfl (by decide) (by decide)) (wa_74 _ _) ?_
                refine rb_iinc (lv' := [some (.ref 68), some (.int 33)]) rfl rfl ?_
                refine rb_goto ?_
                refine rn_step rfl ?_
                refine rb_iload rfl ?_
                refine rb_push ?_
                refine rb_cge (fun h => absurd h (by decide)) (fun _ => ?_)
                refine rb_aload rfl ?_
                refine rb_getf (v := .ref 74) rfl ?_
                refine rb_iload rfl ?_
                refine rb_aload rfl ?_
                refine rb_getf (v := .ref 69) rfl ?_
                refine rb_iload rfl ?_
                refine rb_iald rfl (by decide) (show _ = some (0) from rfl) ?_
                refine rb_iast rfl (by decide) (ok_lt (okL.sA (okL.sA (okL.sA (okL.sA (okL.sA (okL.sA (okL.sA (okL.sA (okL.sA (okL.sA (okL.sA (okL.sA (okL.sA (okL.sA (okL.sA (okL.sA (okL.sA (okL.sA (okL.sA (okL.sA (okL.sA (okL.sA (okL.sA (okL.sA (okL.sA (okL.sA (okL.sA (okL.sA (okL.sA (okL.sA (okL.sA (okL.sA (okL.sA s1_ok _ (List.length_set ..)) _ (List.length_set ..)) _ (List.length_set ..)) _ (List.length_set ..)) _ (List.length_set ..)) _ (List.length_set ..)) _ (List.length_set ..)) _ (List.length_set ..)) _ (List.length_set ..)) _ (List.length_set ..)) _ (List.length_set ..)) _ (List.length_set ..)) _ (List.length_set ..)) _ (List.length_set ..)) _ (List.length_set ..)) _ (List.length_set ..)) _ (List.length_set ..)) _ (List.length_set ..)) _ (List.length_set ..)) _ (List.length_set ..)) _ (List.length_set ..)) _ (List.length_set ..)) _ (List.length_set ..)) _ (List.length_set ..)) _ (List.length_set ..)) _ (List.length_set ..)) _ (List.length_set ..)) _ (List.length_set ..)) _ (List.length_set ..)) _ (List.length_set ..)) _ (List.length_set ..)) _ (List.length_set ..)) _ (List.length_set ..)) (c := 74) (n := 89) (by decide) rfl (by decide) (by decide)) (wa_74 _ _) ?_
                refine rb_iinc (lv' := [some (.ref 68), some (.int 34)]) rfl rfl ?_
                refine rb_goto ?_
                refine rn_step rfl ?_
                refine rb_iload rfl ?_
                refine rb_push ?_
                refine rb_cge (fun h => absurd h (by decide)) (fun _ => ?_)
                refine rb_aload rfl ?_
                refine rb_getf (v := .ref 74) rfl ?_
                refine rb_iload rfl ?_
                refine rb_aload rfl ?_
                refine rb_getf (v := .ref 69) rfl ?_
                refine rb_iload rfl ?_
                refine rb_iald rfl (by decide) (show _ = some (0) from rfl) ?_
                refine rb_iast rfl (by decide) (ok_lt (okL.sA (okL.sA (okL.sA (okL.sA (okL.sA (okL.sA (okL.sA (okL.sA (okL.sA (okL.sA (okL.sA (okL.sA (okL.sA (okL.sA (okL.sA (okL.sA (okL.sA (okL.sA (okL.sA (okL.sA (okL.sA (okL.sA (okL.sA (okL.sA (okL.sA (okL.sA (okL.sA (okL.sA (okL.sA (okL.sA (okL.sA (okL.sA (okL.sA (okL.sA s1_ok _ (List.length_set ..)) _ (List.length_set ..)) _ (List.length_set ..)) _ (List.length_set ..)) _ (List.length_set ..)) _ (List.length_set ..)) _ (List.length_set ..)) _ (List.length_set ..)) _ (List.length_set ..)) _ (List.length_set ..)) _ (List.length_set ..)) _ (List.length_set ..)) _ (List.length_set ..)) _ (List.length_set ..)) _ (List.length_set ..)) _ (List.length_set ..)) _ (List.length_set ..)) _ (List.length_set ..)) _ (List.length_set ..)) _ (List.length_set ..)) _ (List.length_set ..)) _ (List.length_set ..)) _ (List.length_set ..)) _ (List.length_set ..)) _ (List.length_set ..)) _ (List.length_set ..)) _ (List.length_set ..)) _ (List.length_set ..)) _ (List.length_set ..)) _ (List.length_set ..)) _ (List.length_set ..)) _ (List.length_set ..)) _ (List.length_set ..)) _ (List.length_set ..)) (c := 74) (n := 89) (by decide) rfl (by decide) (by decide)) (wa_74 _ _) ?_
                refine rb_iinc (lv' := [some (.ref 68), some (.int 35)]) rfl rfl ?_
                refine rb_goto ?_
                refine rn_step rfl ?_
                refine rb_iload rfl ?_
                refine rb_push ?_
                refine rb_cge (fun h => absurd h (by decide)) (fun _ => ?_)
                refine rb_aload rfl ?_
                refine rb_getf (v := .ref 74) rfl ?_
                refine rb_iload rfl ?_
                refine rb_aload rfl ?_
                refine rb_getf (v := .ref 69) rfl ?_
                refine rb_iload rfl ?_
                refine rb_iald rfl (by decide) (show _ = some (0) from rfl) ?_
                refine rb_iast rfl (by decide) (ok_lt (okL.sA (okL.sA (okL.sA (okL.sA (okL.sA (okL.sA (okL.sA (okL.sA (okL.sA (okL.sA (okL.sA (okL.sA (okL.sA (okL.sA (okL.sA (okL.sA (okL.sA (okL.sA (okL.sA (okL.sA (okL.sA (okL.sA (okL.sA (okL.sA (okL.sA (okL.sA (okL.sA (okL.sA (okL.sA (okL.sA (okL.sA (okL.sA (okL.sA (okL.sA (okL.sA s1_ok _ (List.length_set ..)) _ (List.length_set ..)) _ (List.length_set ..)) _ (List.length_set ..)) _ (List.length_set ..)) _ (List.length_set ..)) _ (List.length_set ..)) _ (List.length_set ..)) _ (List.length_set ..)) _ (List.length_set ..)) _ (List.length_set ..)) _ (List.length_set ..)) _ (List.length_set ..)) _ (List.length_set ..)) _ (List.length_set ..)) _ (List.length_set ..)) _ (List.length_set ..)) _ (List.length_set ..)) _ (List.length_set ..)) _ (List.length_set ..)) _ (List.length_set ..)) _ (List.length_set ..)) _ (List.length_set ..)) _ (List.length_set ..)) _ (List.length_set ..)) _ (List.length_set ..)) _ (List.length_set ..)) _ (List.length_set ..)) _ (List.length_set ..)) _ (List.length_set ..)) _ (List.length_set ..)) _ (List.length_set ..)) _ (List.length_set ..)) _ (List.length_set ..)) _ (List.length_set ..)) (c := 74) (n := 89) (by decide) rfl (by decide) (by decide)) (wa_74 _ _) ?_
                refine rb_iinc (lv' := [some (.ref 68), some (.int 36)]) rfl rfl ?_
                refine rb_goto ?_
                refine rn_step rfl ?_
                refine rb_iload rfl ?_
                refine rb_push ?_
                refine rb_cge (fun h => absurd h (by decide)) (fun _ => ?_)
                refine rb_aload rfl ?_
                refine rb_getf (v := .ref 74) rfl ?_
                refine rb_iload rfl ?_
                refine rb_aload rfl ?_
                refine rb_getf (v := .ref 69) rfl ?_
                refine rb_iload rfl ?_
                refine rb_iald rfl (by decide) (show _ = some (0) from rfl) ?_
                refine rb_iast rfl (by decide) (ok_lt (okL.sA (okL.sA (okL.sA (okL.sA (okL.sA (okL.sA (okL.sA (okL.sA (okL.sA (okL.sA (okL.sA (okL.sA (okL.sA (okL.sA (okL.sA (okL.sA (okL.sA (okL.sA (okL.sA (okL.sA (okL.sA (okL.sA (okL.sA (okL.sA (okL.sA (okL.sA (okL.sA (okL.sA (okL.sA (okL.sA (okL.sA (okL.sA (okL.sA (okL.sA (okL.sA (okL.sA s1_ok _ (List.length_set ..)) _ (List.length_set ..)) _ (List.length_set ..)) _ (List.length_set ..)) _ (List.length_set ..)) _ (List.length_set ..)) _ (List.length_set ..)) _ (List.length_set ..)) _ (List.length_set ..)) _ (List.length_set ..)) _ (List.length_set ..)) _ (List.length_set ..)) _ (List.length_set ..)) _ (List.length_set ..)) _ (List.length_set ..)) _ (List.length_set ..)) _ (List.length_set ..)) _ (List.length_set ..)) _ (List.length_set ..)) _ (List.length_set ..)) _ (List.length_set ..)) _ (List.length_set ..)) _ (List.length_set ..)) _ (List.length_set ..)) _ (List.length_set ..)) _ (List.length_set ..)) _ (List.length_set ..)) _ (List.length_set ..)) _ (List.length_set ..)) _ (List.length_set ..)) _ (List.length_set ..)) _ (List.length_set ..)) _ (List.length_set ..)) _ (List.length_set ..)) _ (List.length_set ..)) _ (List.length_set ..)) (c := 74) (n := 89) (by decide) rfl (by decide) (by decide)) (wa_74 _ _) ?_
                refine rb_iinc (lv' := [some (.ref 68), some (.int 37)]) rfl rfl ?_
                refine rb_goto ?_
                refine rn_step rfl ?_
                refine rb_iload rfl ?_
                refine rb_push ?_
                refine rb_cge (fun h => absurd h (by decide)) (fun _ => ?_)
                refine rb_aload rfl ?_
                refine rb_getf (v := .ref 74) rfl ?_
                refine rb_iload rfl ?_
                refine rb_aload rfl ?_
                refine rb_getf (v := .ref 69) rfl ?_
                refine rb_iload rfl ?_
                refine rb_iald rfl (by decide) (show _ = some (0) from rfl) ?_
                refine rb_iast rfl (by decide) (ok_lt (okL.sA (okL.sA (okL.sA (okL.sA (okL.sA (okL.sA (okL.sA (okL.sA (okL.sA (okL.sA (okL.sA (okL.sA (okL.sA (okL.sA (okL.sA (okL.sA (okL.sA (okL.sA (okL.sA (okL.sA (okL.sA (okL.sA (okL.sA (okL.sA (okL.sA (okL.sA (okL.sA (okL.sA (okL.sA (okL.sA (okL.sA (okL.sA (okL.sA (okL.sA (okL.sA (okL.sA (okL.sA s1_ok _ (List.length_set ..)) _ (List.length_set ..)) _ (List.length_set ..)) _ (List.length_set ..)) _ (List.length_set ..)) _ (List.length_set ..)) _ (List.length_set ..)) _ (List.length_set ..)) _ (List.length_set ..)) _ (List.length_set ..)) _ (List.length_set ..)) _ (List.length_set ..)) _ (List.length_set ..)) _ (List.length_set ..)) _ (List.length_set ..)) _ (List.length_set ..)) _ (List.length_set ..)) _ (List.length_set ..)) _ (List.length_set ..)) _ (List.length_set ..)) _ (List.length_set ..)) _ (List.length_set ..)) _ (List.length_set ..)) _ (List.length_set ..)) _ (List.length_set ..)) _ (List.length_set ..)) _ (List.length_set ..)) _ (List.length_set ..)) _ (List.length_set ..)) _ (List.length_set ..)) _ (List.length_set ..)) _ (List.length_set ..)) _ (List.length_set ..)) _ (List.length_set ..)) _ (List.length_set ..)) _ (List.length_set ..)) _ (List.length_set ..)) (c := 74) (n := 89) (by decide) rfl (by decide) (by decide)) (wa_74 _ _) ?_
                refine rb_iinc (lv' := [some (.ref 68), some (.int 38)]) rfl rfl ?_
                refine rb_goto ?_
                refine rn_step rfl ?_
                refine rb_iload rfl ?_
                refine rb_push ?_
                refine rb_cge (fun h => absurd h (by decide)) (fun _ => ?_)
                refine rb_aload rfl ?_
                refine rb_getf (v := .ref 74) rfl ?_
                refine rb_iload rfl ?_
                refine rb_aload rfl ?_
                refine rb_getf (v := .ref 69) rfl ?_
                refine rb_iload rfl ?_
                refine rb_iald rfl (by decide) (show _ = some (0) from rfl) ?_
                refine rb_iast rfl (by decide) (ok_lt (okL.sA (okL.sA (okL.sA (okL.sA (okL.sA (okL.sA (okL.sA (okL.sA (okL.sA (okL.sA (okL.sA (okL.sA (okL.sA (okL.sA (okL.sA (okL.sA (okL.sA (okL.sA (okL.sA (okL.sA (okL.sA (okL.sA (okL.sA (okL.sA (okL.sA (okL.sA (okL.sA (okL.sA (okL.sA (okL.sA (okL.sA (okL.sA (okL.sA (okL.sA (okL.sA (okL.sA (okL.sA (okL.sA s1_ok _ (List.length_set ..)) _ (List.length_set ..)) _ (List.length_set ..)) _ (List.length_set ..)) _ (List.length_set ..)) _ (List.length_set ..)) _ (List.length_set ..)) _ (List.length_set ..)) _ (List.length_set ..)) _ (List.length_set ..)) _ (List.length_set ..)) _ (List.length_set ..)) _ (List.length_set ..)) _ (List.length_set ..)) _ (List.length_set ..)) _ (List.length_set ..)) _ (List.length_set ..)) _ (List.length_set ..)) _ (List.length_set ..)) _ (List.length_set ..)) _ (List.length_set ..)) _ (List.length_set ..)) _ (List.length_set ..)) _ (List.length_set ..)) _ (List.length_set ..)) _ (List.length_set ..)) _ (List.length_set ..)) _ (List.length_set ..)) _ (List.length_set ..)) _ (List.length_set ..)) _ (List.length_set ..)) _ (List.length_set ..)) _ (List.length_set ..)) _ (List.length_set ..)) _ (List.length_set ..)) _ (List.length_set ..)) _ (List.length_set ..)) _ (List.length_set ..)) (c := 74) (n := 89) (by decide) rfl (by decide) (by decide)) (wa_74 _ _) ?_
                refine rb_iinc (lv' := [some (.ref 68), some (.int 39)]) rfl rfl ?_
                refine rb_goto ?_
                refine rn_step rfl ?_
                refine rb_iload rfl ?_
                refine rb_push ?_
                refine rb_cge (fun h => absurd h (by decide)) (fun _ => ?_)
                refine rb_aload rfl ?_
                refine rb_getf (v := .ref 74) rfl ?_
                refine rb_iload rfl ?_
                refine rb_aload rfl ?_
                refine rb_getf (v := .ref 69) rfl ?_
                refine rb_iload rfl ?_
                refine rb_iald rfl (by decide) (show _ = some (0) from rfl) ?_
                refine rb_iast rfl (by decide) (ok_lt (okL.sA (okL.sA (okL.sA (okL.sA (okL.sA (okL.sA (okL.sA (okL.sA (okL.sA (okL.sA (okL.sA (okL.sA (okL.sA (okL.sA (okL.sA (okL.sA (okL.sA (okL.sA (okL.sA (okL.sA (okL.sA (okL.sA (okL.sA (okL.sA (okL.sA (okL.sA (okL.sA (okL.sA (okL.sA (okL.sA (okL.sA (okL.sA (okL.sA (okL.sA (okL.sA (okL.sA (okL.sA (okL.sA (okL.sA s1_ok _ (List.length_set ..)) _ (List.length_set ..)) _ (List.length_set ..)) _ (List.length_set ..)) _ (List.length_set ..)) _ (List.length_set ..)) _ (List.length_set ..)) _ (List.length_set ..)) _ (List.length_set ..)) _ (List.length_set ..)) _ (List.length_set ..)) _ (List.length_set ..)) _ (List.length_set ..)) _ (List.length_set ..)) _ (List.length_set ..)) _ (List.length_set ..)) _ (List.length_set ..)) _ (List.length_set ..)) _ (List.length_set ..)) _ (List.length_set ..)) _ (List.length_set ..)) _ (List.length_set ..)) _ (List.length_set ..)) _ (List.length_set ..)) _ (List.length_set ..)) _ (List.length_set ..)) _ (List.length_set ..)) _ (List.length_set ..)) _ (List.length_set ..)) _ (List.length_set ..)) _ (List.length_set ..)) _ (List.length_set ..)) _ (List.length_set ..)) _ (List.length_set ..)) _ (List.length_set ..)) _ (List.length_set ..)) _ (List.length_set ..)) _ (List.length_set ..)) _ (List.length_set ..)) (c := 74) (n := 89) (by decide) rfl (by decide) (by decide)) (wa_74 _ _) ?_
                refine rb_iinc (lv' := [some (.ref 68), some (.int 40)]) rfl rfl ?_
                refine rb_goto ?_
                refine rn_step rfl ?_
                refine rb_iload rfl ?_
                refine rb_push ?_
                refine rb_cge (fun h => absurd h (by decide)) (fun _ => ?_)
                refine rb_aload rfl ?_
                refine rb_getf (v := .ref 74) rfl ?_
                refine rb_iload rfl ?_
                refine rb_aload rfl ?_
                refine rb_getf (v := .ref 69) rfl ?_
                refine rb_iload rfl ?_
                refine rb_iald rfl (by decide) (show _ = some (0) from rfl) ?_
                refine rb_iast rfl (by decide) (ok_lt (okL.sA (okL.sA (okL.sA (okL.sA (okL.sA (okL.sA (okL.sA (okL.sA (okL.sA (okL.sA (okL.sA (okL.sA (okL.sA (okL.sA (okL.sA (okL.sA (okL.sA (okL.sA (okL.sA (okL.sA (okL.sA (okL.sA (okL.sA (okL.sA (okL.sA (okL.sA (okL.sA (okL.sA (okL.sA (okL.sA (okL.sA (okL.sA (okL.sA (okL.sA (okL.sA (okL.sA (okL.sA (okL.sA (okL.sA (okL.sA s1_ok _ (List.length_set ..)) _ (List.length_set ..)) _ (List.length_set ..)) _ (List.length_set ..)) _ (List.length_set ..)) _ (List.length_set ..)) _ (List.length_set ..)) _ (List.length_set ..)) _ (List.length_set ..)) _ (List.length_set ..)) _ (List.length_set ..)) _ (List.length_set ..)) _ (List.length_set ..)) _ (List.length_set ..)) _ (List.length_set ..)) _ (List.length_set ..)) _ (List.length_set ..)) _ (List.length_set ..)) _ (List.length_set ..)) _ (List.length_set ..)) _ (List.length_set ..)) _ (List.length_set ..)) _ (List.length_set ..)) _ (List.length_set ..)) _ (List.length_set ..)) _ (List.length_set ..)) _ (List.length_set ..)) _ (List.length_set ..)) _ (List.length_set ..)) _ (List.length_set ..)) _ (List.length_set ..)) _ (List.length_set ..)) _ (List.length_set ..)) _ (List.length_set ..)) _ (List.length_set ..)) _ (List.length_set ..)) _ (List.length_set ..)) _ (List.length_set ..)) _ (List.length_set ..)) _ (List.length_set ..)) (c := 74) (n := 89) (by decide) rfl (by decide) (by decide)) (wa_74 _ _) ?_
                refine rb_iinc (lv' := [some (.ref 68), some (.int 41)]) rfl rfl ?_
                refine rb_goto ?_
                refine rn_step rfl ?_
                refine rb_iload rfl ?_
                refine rb_push ?_
                refine rb_cge (fun h => absurd h (by decide)) (fun _ => ?_)
                refine rb_aload rfl ?_
                refine rb_getf (v := .ref 74) rfl ?_
                refine rb_iload rfl ?_
                refine rb_aload rfl ?_
                refine rb_getf (v := .ref 69) rfl ?_
                refine rb_iload rfl ?_
                refine rb_iald rfl (by decide) (show _ = some (0) from rfl) ?_
                refine rb_iast rfl (by decide) (ok_lt (okL.sA (okL.sA (okL.sA (okL.sA (okL.sA (okL.sA (okL.sA (okL.sA (okL.sA (okL.sA (okL.sA (okL.sA (okL.sA (okL.sA (okL.sA (okL.sA (okL.sA (okL.sA (okL.sA (okL.sA (okL.sA (okL.sA (okL.sA (okL.sA (okL.sA (okL.sA (okL.sA (okL.sA (okL.sA (okL.sA (okL.sA (okL.sA (okL.sA (okL.sA (okL.sA (okL.sA (okL.sA (okL.sA (okL.sA (okL.sA (okL.sA s1_ok _ (List.length_set ..)) _ (List.length_set ..)) _ (List.length_set ..)) _ (List.length_set ..)) _ (List.length_set ..)) _ (List.length_set ..)) _ (List.length_set ..)) _ (List.length_set ..)) _ (List.length_set ..)) _ (List.length_set ..)) _ (List.length_set ..)) _ (List.length_set ..)) _ (List.length_set ..)) _ (List.length_set ..)) _ (List.length_set ..)) _ (List.length_set ..)) _ (List.length_set ..)) _ (List.length_set ..)) _ (List.length_set ..)) _ (List.length_set ..)) _ (List.length_set ..)) _ (List.length_set ..)) _ (List.length_set ..)) _ (List.length_set ..)) _ (List.length_set ..)) _ (List.length_set ..)) _ (List.length_set ..)) _ (List.length_set ..)) _ (List.length_set ..)) _ (List.length_set ..)) _ (List.length_set ..)) _ (List.length_set ..)) _ (List.length_set ..)) _ (List.length_set ..)) _ (List.length_set ..)) _ (List.length_set ..)) _ (List.length_set ..)) _ (List.length_set ..)) _ (List.length_set ..)) _ (List.length_set ..)) _ (List.length_set ..)) (c := 74) (n := 89) (by decide) rfl (by decide) (by decide)) (wa_74 _ _) ?_
                refine rb_iinc (lv' := [some (.ref 68), some (.int 42)]) rfl rfl ?_
                refine rb_goto ?_
                refine rn_step rfl ?_
                refine rb_iload rfl ?_
                refine rb_push ?_
                refine rb_cge (fun h => absurd h (by decide)) (fun _ => ?_)
                refine rb_aload rfl ?_
                refine rb_getf (v := .ref 74) rfl ?_
                refine rb_iload rfl ?_
                refine rb_aload rfl ?_
                refine rb_getf (v := .ref 69) rfl ?_
                refine rb_iload rfl ?_
                refine rb_iald rfl (by decide) (show _ = some (0) from rfl) ?_
                refine rb_iast rfl (by decide) (ok_lt (okL.sA (okL.sA (okL.sA (okL.sA (okL.sA (okL.sA (okL.sA (okL.sA (okL.sA (okL.sA (okL.sA (okL.sA (okL.sA (okL.sA (okL.sA (okL.sA (okL.sA (okL.sA (okL.sA (okL.sA (okL.sA (okL.sA (okL.sA (okL.sA (okL.sA (okL.sA (okL.sA (okL.sA (okL.sA (okL.sA (okL.sA (okL.sA (okL.sA (okL.sA (okL.sA (okL.sA (okL.sA (okL.sA (okL.sA (okL.sA (okL.sA (okL.sA s1_ok _ (List.length_set ..)) _ (List.length_set ..)) _ (List.length_set ..)) _ (List.length_set ..)) _ (List.length_set ..)) _ (List.length_set ..)) _ (List.length_set ..)) _ (List.length_set ..)) _ (List.length_set ..)) _ (List.length_set ..)) _ (List.length_set ..)) _ (List.length_set ..)) _ (List.length_set ..)) _ (List.length_set ..)) _ (List.length_set ..)) _ (List.length_set ..)) _ (List.length_set ..)) _ (List.length_set ..)) _ (List.length_set ..)) _ (List.length_set ..)) _ (List.length_set ..)) _ (List.length_set ..)) _ (List.length_set ..)) _ (List.length_set ..)) _ (List.length_set ..)) _ (List.length_set ..)) _ (List.length_set ..)) _ (List.length_set ..)) _ (List.length_set ..)) _ (List.length_set ..)) _ (List.length_set ..)) _ (List.length_set ..)) _ (List.length_set ..)) _ (List.length_set ..)) _ (List.length_set ..)) _ (List.length_set ..)) _ (List.length_set ..)) _ (List.length_set ..)) _ (List.length_set ..)) _ (List.length_set ..)) _ (List.length_set ..)) _ (List.length_set ..)) (c := 74) (n := 89) (by decide) rfl (by decide) (by decide)) (wa_74 _ _) ?_
                refine rb_iinc (lv' := [some (.ref 68), some (.int 43)]) rfl rfl ?_
                refine rb_goto ?_
                refine rn_step rfl ?_
                refine rb_iload rfl ?_
                refine rb_push ?_
                refine rb_cge (fun h => absurd h (by decide)) (fun _ => ?_)
                refine rb_aload rfl ?_
                refine rb_getf (v := .ref 74) rfl ?_
                refine rb_iload rfl ?_
                refine rb_aload rfl ?_
                refine rb_getf (v := .ref 69) rfl ?_
                refine rb_iload rfl ?_
                refine rb_iald rfl (by decide) (show _ = some (0) from rfl) ?_
                refine rb_iast rfl (by decide) (ok_lt (okL.sA (okL.sA (okL.sA (okL.sA (okL.sA (okL.sA (okL.sA (okL.sA (okL.sA (okL.sA (okL.sA (okL.sA (okL.sA (okL.sA (okL.sA (okL.sA (okL.sA (okL.sA (okL.sA (okL.sA (okL.sA (okL.sA (okL.sA (okL.sA (okL.sA (okL.sA (okL.sA (okL.sA (okL.sA (okL.sA (okL.sA (okL.sA (okL.sA (okL.sA (okL.sA (okL.sA (okL.sA (okL.sA (okL.sA (okL.sA (okL.sA (okL.sA (okL.sA s1_ok _ (List.length_set ..)) _ (List.length_set ..)) _ (List.length_set ..)) _ (List.length_set ..)) _ (List.length_set ..)) _ (List.length_set ..)) _ (List.length_set ..)) _ (List.length_set ..)) _ (List.length_set ..)) _ (List.length_set ..)) _ (List.length_set ..)) _ (List.length_set ..)) _ (List.length_set ..)) _ (List.length_set ..)) _ (List.length_set ..)) _ (List.length_set ..)) _ (List.length_set ..)) _ (List.length_set ..)) _ (List.length_set ..)) _ (List.length_set ..)) _ (List.length_set ..)) _ (List.length_set ..)) _ (List.length_set ..)) _ (List.length_set ..)) _ (List.length_set ..)) _ (List.length_set ..)) _ (List.length_set ..)) _ (List.length_set ..)) _ (List.length_set ..)) _ (List.length_set ..)) _ (List.length_set ..)) _ (List.length_set ..)) _ (List.length_set ..)) _ (List.length_set ..)) _ (List.length_set ..)) _ (List.length_set ..)) _ (List.length_set ..)) _ (List.length_set ..)) _ (List.length_set ..)) _ (List.length_set ..)) _ (List.length_set ..)) _ (List.length_set ..)) _ (List.length_set ..)) (c := 74) (n := 89) (by decide) rfl (by decide) (by decide)) (wa_74 _ _) ?_
                refine rb_iinc (lv' := [some (.ref 68), some (.int 44)]) rfl rfl ?_
                refine rb_goto ?_
                refine rn_step rfl ?_
                refine rb_iload rfl ?_
                refine rb_push ?_
                refine rb_cge (fun h => absurd h (by decide)) (fun _ => ?_)
                refine rb_aload rfl ?_
                refine rb_getf (v := .ref 74) rfl ?_
                refine rb_iload rfl ?_
                refine rb_aload rfl ?_
                refine rb_getf (v := .ref 69) rfl ?_
                refine rb_iload rfl ?_
                refine rb_iald rfl (by decide) (show _ = some (0) from rfl) ?_
                refine rb_iast rfl (by decide) (ok_lt (okL.sA (okL.sA (okL.sA (okL.sA (okL.sA (okL.sA (okL.sA (okL.sA (okL.sA (okL.sA (okL.sA (okL.sA (okL.sA (okL.sA (okL.sA (okL.sA (okL.sA (okL.sA (okL.sA (okL.sA (okL.sA (okL.sA (okL.sA (okL.sA (okL.sA (okL.sA (okL.sA (okL.sA (okL.sA (okL.sA (okL.sA (okL.sA (okL.sA (okL.sA (okL.sA (okL.sA (okL.sA (okL.sA (okL.sA (okL.sA (okL.sA (okL.sA (okL.sA (okL.sA s1_ok _ (List.length_set ..)) _ (List.length_set ..)) _ (List.length_set ..)) _ (List.length_set ..)) _ (List.length_set ..)) _ (List.length_set ..)) _ (List.length_set ..)) _ (List.length_set ..)) _ (List.length_set ..)) _ (List.length_set ..)) _ (List.length_set ..)) _ (List.length_set ..)) _ (List.length_set ..)) _ (List.length_set ..)) _ (List.length_set ..)) _ (List.length_set ..)) _ (List.length_set ..)) _ (List.length_set ..)) _ (List.length_set ..)) _ (List.length_set ..)) _ (List.length_set ..)) _ (List.length_set ..)) _ (List.length_set ..)) _ (List.length_set ..)) _ (List.length_set ..)) _ (List.length_set ..)) _ (List.length_set ..)) _ (List.length_set ..)) _ (List.length_set ..)) _ (List.length_set ..)) _ (List.length_set ..)) _ (List.length_set ..)) _ (List.length_set ..)) _ (List.length_set ..)) _ (List.length_set ..)) _ (List.length_set ..)) _ (List.length_set ..)) _ (List.length_set ..)) _ (List.length_set ..)) _ (List.length_set ..)) _ (List.length_set ..)) _ (List.length_set ..)) _ (List.length_set ..)) _ (List.length_set ..)) (c := 74) (n := 89) (by decide) rfl (by decide) (by decide)) (wa_74 _ _) ?_
                refine rb_iinc (lv' := [some (.ref 68), some (.int 45)]) rfl rfl ?_
                refine rb_goto ?_
                refine rn_step rfl ?_
                refine rb_iload rfl ?_
                refine rb_push ?_
                refine rb_cge (fun h => absurd h (by decide)) (fun _ => ?_)
                refine rb_aload rfl ?_
                refine rb_getf (v := .ref 74) rfl ?_
                refine rb_iload rfl ?_
                refine rb_aload rfl ?_
                refine rb_getf (v := .ref 69) rfl ?_
                refine rb_iload rfl ?_
                refine rb_iald rfl (by decide) (show _ = some (0) from rfl) ?_
                refine rb_iast rfl (by decide) (ok_lt (okL.sA (okL.sA (okL.sA (okL.sA (okL.sA (okL.sA (okL.sA (okL.sA (okL.sA (okL.sA (okL.sA (okL.sA (okL.sA (okL.sA (okL.sA (okL.sA (okL.sA (okL.sA (okL.sA (okL.sA (okL.sA (okL.sA (okL.sA (okL.sA (okL.sA (okL.sA (okL.sA (okL.sA (okL.sA (okL.sA (okL.sA (okL.sA (okL.sA (okL.sA (okL.sA (okL.sA (okL.sA (okL.sA (okL.sA (okL.sA (okL.sA (okL.sA (okL.sA (okL.sA (okL.sA s1_ok _ (List.length_set ..)) _ (List.length_set ..)) _ (List.length_set ..)) _ (List.length_set ..)) _ (List.length_set ..)) _ (List.length_set ..)) _ (List.length_set ..)) _ (List.length_set ..)) _ (List.length_set ..)) _ (List.length_set ..)) _ (List.length_set ..)) _ (List.length_set ..)) _ (List.length_set ..)) _ (List.length_set ..)) _ (List.length_set ..)) _ (List.length_set ..)) _ (List.length_set ..)) _ (List.length_set ..)) _ (List.length_set ..)) _ (List.length_set ..)) _ (List.length_set ..)) _ (List.length_set ..)) _ (List.length_set ..)) _ (List.length_set ..)) _ (List.length_set ..)) _ (List.length_set ..)) _ (List.length_set ..)) _ (List.length_set ..)) _ (List.length_set ..)) _ (List.length_set ..)) _ (List.length_set ..)) _ (List.length_set ..)) _ (List.length_set ..)) _ (List.length_set ..)) _ (List.length_set ..)) _ (List.length_set ..)) _ (List.length_set ..)) _ (List.length_set ..)) _ (List.length_set ..)) _ (List.length_set ..)) _ (List.length_set ..)) _ (List.length_set ..)) _ (List.length_set ..)) _ (List.length_set ..)) _ (List.length_set ..)) (c := 74) (n := 89) (by decide) rfl (by decide) (by decide)) (wa_74 _ _) ?_
                refine rb_iinc (lv' := [some (.ref 68), some (.int 46)]) rfl rfl ?_
                refine rb_goto ?_
                refine rn_step rfl ?_
                refine rb_iload rfl ?_
                refine rb_push ?_
                refine rb_cge (fun h => absurd h (by decide)) (fun _ => ?_)
                refine rb_aload rfl ?_
                refine rb_getf (v := .ref 74) rfl ?_
                refine rb_iload rfl ?_
                refine rb_aload rfl ?_
                refine rb_getf (v := .ref 69) rfl ?_
                refine rb_iload rfl ?_
                refine rb_iald rfl (by decide) (show _ = some (0) from rfl) ?_
                refine rb_iast rfl (by decide) (ok_lt (okL.sA (okL.sA (okL.sA (okL.sA (okL.sA (okL.sA (okL.sA (okL.sA (okL.sA (okL.sA (okL.sA (okL.sA (okL.sA (okL.sA (okL.sA (okL.sA (okL.sA (okL.sA (okL.sA (okL.sA (okL.sA (okL.sA (okL.sA (okL.sA (okL.sA (okL.sA (okL.sA (okL.sA (okL.sA (okL.sA (okL.sA (okL.sA (okL.sA (okL.sA (okL.sA (okL.sA (okL.sA (okL.sA (okL.sA (okL.sA (okL.sA (okL.sA (okL.sA (okL.sA (okL.sA (okL.sA s1_ok _ (List.length_set ..)) _ (List.length_set ..)) _ (List.length_set ..)) _ (List.length_set ..)) _ (List.length_set ..)) _ (List.length_set ..)) _ (List.length_set ..)) _ (List.length_set ..)) _ (List.length_set ..)) _ (List.length_set ..)) _ (List.length_set ..)) _ (List.length_set ..)) _ (List.length_set ..)) _ (List.length_set ..)) _ (List.length_set ..)) _ (List.length_set ..)) _ (List.length_set ..)) _ (List.length_set ..)) _ (List.length_set ..)) _ (List.length_set ..)) _ (List.length_set ..)) _ (List.length_set ..)) _ (List.length_set ..)) _ (List.length_set ..)) _ (List.length_set ..)) _ (List.length_set ..)) _ (List.length_set ..)) _ (List.length_set ..)) _ (List.length_set ..)) _ (List.length_set ..)) _ (List.length_set ..)) _ (List.length_set ..)) _ (List.length_set ..)) _ (List.length_set ..)) _ (List.length_set ..)) _ (List.length_set ..)) _ (List.length_set ..)) _ (List.length_set ..)) _ (List.length_set ..)) _ (List.length_set ..)) _ (List.length_set ..)) _ (List.length_set ..)) _ (List.length_set ..)) _ (List.length_set ..)) _ (List.length_set ..)) _ (List.length_set ..)) (c := 74) (n := 89) (by decide) rfl (by decide) (by decide)) (wa_74 _ _) ?_
                refine rb_iinc (lv' := [some (.ref 68), some (.int 47)]) rfl rfl ?_
                refine rb_goto ?_
                refine rn_step rfl ?_
                refine rb_iload rfl ?_
                refine rb_push ?_
                refine rb_cge (fun h => absurd h (by decide)) (fun _ => ?_)
                refine rb_aload rfl ?_
                refine rb_getf (v := .ref 74) rfl ?_
                refine rb_iload rfl ?_
                refine rb_aload rfl ?_
                refine rb_getf (v := .ref 69) rfl ?_
                refine rb_iload rfl ?_
                refine rb_iald rfl (by decide) (show _ = some (0) from rfl) ?_
                refine rb_iast rfl (by decide) (ok_lt (okL.sA (okL.sA (okL.sA (okL.sA (okL.sA (okL.sA (okL.sA (okL.sA (okL.sA (okL.sA (okL.sA (okL.sA (okL.sA (okL.sA (okL.sA (okL.sA (okL.sA (okL.sA (okL.sA (okL.sA (okL.sA (okL.sA (okL.sA (okL.sA (okL.sA (okL.sA (okL.sA (okL.sA (okL.sA (okL.sA (okL.sA (okL.sA (okL.sA (okL.sA (okL.sA (okL.sA (okL.sA (okL.sA (okL.sA (okL.sA (okL.sA (okL.sA (okL.sA (okL.sA (okL.sA (okL.sA (okL.sA s1_ok _ (List.length_set ..)) _ (List.length_set ..)) _ (List.length_set ..)) _ (List.length_set ..)) _ (List.length_set ..)) _ (List.length_set ..)) _ (List.length_set ..)) _ (List.length_set ..)) _ (List.length_set ..)) _ (List.length_set ..)) _ (List.length_set ..)) _ (List.length_set ..)) _ (List.length_set ..)) _ (List.length_set ..)) _ (List.length_set ..)) _ (List.length_set ..)) _ (List.length_set ..)) _ (List.length_set ..)) _ (List.length_set ..)) _ (List.length_set ..)) _ (List.length_set ..)) _ (List.length_set ..)) _ (List.length_set ..)) _ (List.length_set ..)) _ (List.length_set ..)) _ (List.length_set ..)) _ (List.length_set ..)) _ (List.length_set ..)) _ (List.length_set ..)) _ (List.length_set ..)) _ (List.length_set ..)) _ (List.length_set ..)) _ (List.length_set ..)) _ (List.length_set ..)) _ (List.length_set ..)) _ (List.length_set ..)) _ (List.length_set ..)) _ (List.length_set ..)) _ (List.length_set ..)) _ (List.length_set ..)) _ (List.length_set ..)) _ (List.length_set ..)) _ (List.length_set ..)) _ (List.length_set ..)) _ (List.length_set ..)) _ (List.length_set ..)) _ (List.length_set ..)) (c := 74) (n := 89) (by decide) rfl (by decide) (by decide)) (wa_74 _ _) ?_
                refine rb_iinc (lv' := [some (.ref 68), some (.int 48)]) rfl rfl ?_
                refine rb_goto ?_
                refine rn_step rfl ?_
                refine rb_iload rfl ?_
                refine rb_push ?_
                refine rb_cge (fun h => absurd h (by decide)) (fun _ => ?_)
                refine rb_aload rfl ?_
                refine rb_getf (v := .ref 74) rfl ?_
                refine rb_iload rfl ?_
                refine rb_aload rfl ?_
                refine rb_getf (v := .ref 69) rfl ?_
                refine rb_iload rfl ?_
                refine rb_iald rfl (by decide) (show _ = some (0) from rfl) ?_
                refine rb_iast rfl (by decide) (ok_lt (okL.sA (okL.sA (okL.sA (okL.sA (okL.sA (okL.sA (okL.sA (okL.sA (okL.sA (okL.sA (okL.sA (okL.sA (okL.sA (okL.sA (okL.sA (okL.sA (okL.sA (okL.sA (okL.sA (okL.sA (okL.sA (okL.sA (okL.sA (okL.sA (okL.sA (okL.sA (okL.sA (okL.sA (okL.sA (okL.sA (okL.sA (okL.sA (okL.sA (okL.sA (okL.sA (okL.sA (okL.sA (okL.sA (okL.sA (okL.sA (okL.sA (okL.sA (okL.sA (okL.sA (okL.sA (okL.sA (okL.sA (okL.sA s1_ok _ (List.length_set ..)) _ (List.length_set ..)) _ (List.length_set ..)) _ (List.length_set ..)) _ (List.length_set ..)) _ (List.length_set ..)) _ (List.length_set ..)) _ (List.length_set ..)) _ (List.length_set ..)) _ (List.length_set ..)) _ (List.length_set ..)) _ (List.length_set ..)) _ (List.length_set ..)) _ (List.length_set ..)) _ (List.length_set ..)) _ (List.length_set ..)) _ (List.length_set ..)) _ (List.length_set ..)) _ (List.length_set ..)) _ (List.length_set ..)) _ (List.length_set ..)) _ (List.length_set ..)) _ (List.length_set ..)) _ (List.length_set ..)) _ (List.length_set ..)) _ (List.length_set ..)) _ (List.length_set ..)) _ (List.length_set ..)) _ (List.length_set ..)) _ (List.length_set ..)) _ (List.length_set ..)) _ (List.length_set ..)) _ (List.length_set ..)) _ (List.length_set ..)) _ (List.length_set ..)) _ (List.length_set ..)) _ (List.length_set ..)) _ (List.length_set ..)) _ (List.length_set ..)) _ (List.length_set ..)) _ (List.length_set ..)) _ (List.length_set ..)) _ (List.length_set ..)) _ (List.length_set ..)) _ (List.length_set ..)) _ (List.length_set ..)) _ (List.length_set ..)) _ (List.length_set ..)) (c := 74) (n := 89) (by decide) rfl (by decide) (by decide)) (wa_74 _ _) ?_
                refine rb_iinc (lv' := [some (.ref 68), some (.int 49)]) rfl rfl ?_
                refine rb_goto ?_
                refine rn_step rfl ?_
                refine rb_iload rfl ?_
                refine rb_push ?_
                refine rb_cge (fun h => absurd h (by decide)) (fun _ => ?_)
                refine rb_aload rfl ?_
                refine rb_getf (v := .ref 74) rfl ?_
                refine rb_iload rfl ?_
                refine rb_aload rfl ?_
                refine rb_getf (v := .ref 69) rfl ?_
                refine rb_iload rfl ?_
                refine rb_iald rfl (by decide) (show _ = some (0) from rfl) ?_
                refine rb_iast rfl (by decide) (ok_lt (okL.sA (okL.sA (okL.sA (okL.sA (okL.sA (okL.sA (okL.sA (okL.sA (okL.sA (okL.sA (okL.sA (okL.sA (okL.sA (okL.sA (okL.sA (okL.sA (okL.sA (okL.sA (okL.sA (okL.sA (okL.sA (okL.sA (okL.sA (okL.sA (okL.sA (okL.sA (okL.sA (okL.sA (okL.sA (okL.sA (okL.sA (okL.sA (okL.sA (okL.sA (okL.sA (okL.sA (okL.sA (okL.sA (okL.sA (okL.sA (okL.sA (okL.sA (okL.sA (okL.sA (okL.sA (okL.sA (okL.sA (okL.sA (okL.sA s1_ok _ (List.length_set ..)) _ (List.length_set ..)) _ (List.length_set ..)) _ (List.length_set ..)) _ (List.length_set ..)) _ (List.length_set ..)) _ (List.length_set ..)) _ (List.length_set ..)) _ (List.length_set ..)) _ (List.length_set ..)) _ (List.length_set ..)) _ (List.length_set ..)) _ (List.length_set ..)) _ (List.length_set ..)) _ (List.length_set ..)) _ (List.length_set ..)) _ (List.length_set ..)) _ (List.length_set ..)) _ (List.length_set ..)) _ (List.length_set ..)) _ (List.length_set ..)) _ (List.length_set ..)) _ (List.length_set ..)) _ (List.length_set ..)) _ (List.length_set ..)) _ (List.length_set ..)) _ (List.length_set ..)) _ (List.length_set ..)) _ (List.length_set ..)) _ (List.length_set ..)) _ (List.length_set ..)) _ (List.length_set ..)) _ (List.length_set ..)) _ (List.length_set ..)) _ (List.length_set ..)) _ (List.length_set ..)) _ (List.length_set ..)) _ (List.length_set ..)) _ (List.length_set ..)) _ (List.length_set ..)) _ (List.length_set ..)) _ (List.length_set ..)) _ (List.length_set ..)) _ (List.length_set ..)) _ (List.length_set ..)) _ (List.length_set ..)) _ (List.length_set ..)) _ (List.length_set ..)) _ (List.length_set ..)) (c := 74) (n := 89) (by decide) rfl (by decide) (by decide)) (wa_74 _ _) ?_
                refine rb_iinc (lv' := [some (.ref 68), some (.int 50)]) rfl rfl ?_
                refine rb_goto ?_
                refine rn_step rfl ?_
                refine rb_iload rfl ?_
                refine rb_push ?_
                refine rb_cge (fun h => absurd h (by decide)) (fun _ => ?_)
                refine rb_aload rfl ?_
                refine rb_getf (v := .ref 74) rfl ?_
                refine rb_iload rfl ?_
                refine rb_aload rfl ?_
                refine rb_getf (v := .ref 69) rfl ?_
                refine rb_iload rfl ?_
                refine rb_iald rfl (by decide) (show _ = some (0) from rfl) ?_
                refine rb_iast rfl (by decide) (ok_lt (okL.sA (okL.sA (okL.sA (okL.sA (okL.sA (okL.sA (okL.sA (okL.sA (okL.sA (okL.sA (okL.sA (okL.sA (okL.sA (okL.sA (okL.sA (okL.sA (okL.sA (okL.sA (okL.sA (okL.sA (okL.sA (okL.sA (okL.sA (okL.sA (okL.sA (okL.sA (okL.sA (okL.sA (okL.sA (okL.sA (okL.sA (okL.sA (okL.sA (okL.sA (okL.sA (okL.sA (okL.sA (okL.sA (okL.sA (okL.sA (okL.sA (okL.sA (okL.sA (okL.sA (okL.sA (okL.sA (okL.sA (okL.sA (okL.sA (okL.sA s1_ok _ (List.length_set ..)) _ (List.length_set ..)) _ (List.length_set ..)) _ (List.length_set ..)) _ (List.length_set ..)) _ (List.length_set ..)) _ (List.length_set ..)) _ (List.length_set ..)) _ (List.length_set ..)) _ (List.length_set ..)) _ (List.length_set ..)) _ (List.length_set ..)) _ (List.length_set ..)) _ (List.length_set ..)) _ (List.length_set ..)) _ (List.length_set ..)) _ (List.length_set ..)) _ (List.length_set ..)) _ (List.length_set ..)) _ (List.length_set ..)) _ (List.length_set ..)) _ (List.length_set ..)) _ (List.length_set ..)) _ (List.length_set ..)) _ (List.length_set ..)) _ (List.length_set ..)) _ (List.length_set ..)) _ (List.length_set ..)) _ (List.length_set ..)) _ (List.length_set ..)) _ (List.length_set ..)) _ (List.length_set ..)) _ (List.length_set ..)) _ (List.length_set ..)) _ (List.length_set ..)) _ (List.length_set ..)) _ (List.length_set ..)) _ (List.length_set ..)) _ (List.length_set ..)) _ (List.length_set ..)) _ (List.length_set ..)) _ (List.length_set ..)) _ (List.length_set ..)) _ (List.length_set ..)) _ (List.length_set ..)) _ (List.length_set ..)) _ (List.length_set ..)) _ (List.length_set ..)) _ (List.length_set ..)) _ (List.length_set ..)) (c := 74) (n := 89) (by decide) rfl (by decide) (by decide)) (wa_74 _ _) ?_
                refine rb_iinc (lv' := [some (.ref 68), some (.int 51)]) rfl rfl ?_
                refine rb_goto ?_
                refine rn_step rfl ?_
                refine rb_iload rfl ?_
                refine rb_push ?_
                refine rb_cge (fun h => absurd h (by decide)) (fun _ => ?_)
                refine rb_aload rfl ?_
                refine rb_getf (v := .ref 74) rfl ?_
                refine rb_iload rfl ?_
                refine rb_aload rfl ?_
                refine rb_getf (v := .ref 69) rfl ?_
                refine rb_iload rfl ?_
                refine rb_iald rfl (by decide) (show _ = some (0) from rfl) ?_
                refine rb_iast rfl (by decide) (ok_lt (okL.sA (okL.sA (okL.sA (okL.sA (okL.sA (okL.sA (okL.sA (okL.sA (okL.sA (okL.sA (okL.sA (okL.sA (okL.sA (okL.sA (okL.sA (okL.sA (okL.sA (okL.sA (okL.sA (okL.sA (okL.sA (okL.sA (okL.sA (okL.sA (okL.sA (okL.sA (okL.sA (okL.sA (okL.sA (okL.sA (okL.sA (okL.sA (okL.sA (okL.sA (okL.sA (okL.sA (okL.sA (okL.sA (okL.sA (okL.sA (okL.sA (okL.sA (okL.sA (okL.sA (okL.sA (okL.sA (okL.sA (okL.sA (okL.sA (okL.sA (okL.sA s1_ok _ (List.length_set ..)) _ (List.length_set ..)) _ (List.length_set ..)) _ (List.length_set ..)) _ (List.length_set ..)) _ (List.length_set ..)) _ (List.length_set ..)) _ (List.length_set ..)) _ (List.length_set ..)) _ (List.length_set ..)) _ (List.length_set ..)) _ (List.length_set ..)) _ (List.length_set ..)) _ (List.length_set ..)) _ (List.length_set ..)) _ (List.length_set ..)) _ (List.length_set ..)) _ (List.length_set ..)) _ (List.length_set ..)) _ (List.length_set ..)) _ (List.length_set ..)) _ (List.length_set ..)) _ (List.length_set ..)) _ (List.length_set ..)) _ (List.length_set ..)) _ (List.length_set ..)) _ (List.length_set ..)) _ (List.length_set ..)) _ (List.length_set ..)) _ (List.length_set ..)) _ (List.length_set ..)) _ (List.length_set ..)) _ (List.length_set ..)) _ (List.length_set ..)) _ (List.length_set ..)) _ (List.length_set ..)) _ (List.length_set ..)) _ (List.length_set ..)) _ (List.length_set ..)) _ (List.length_set ..)) _ (List.length_set ..)) _ (List.length_set ..)) _ (List.length_set ..)) _ (List.length_set ..)) _ (List.length_set ..)) _ (List.length_set ..)) _ (List.length_set ..)) _ (List.length_set ..)) _ (List.length_set ..)) _ (List.length_set ..)) _ (List.length_set ..)) (c := 74) (n := 89) (by decide) rfl (by decide) (by decide)) (wa_74 _ _) ?_
                refine rb_iinc (lv' := [some (.ref 68), some (.int 52)]) rfl rfl ?_
                refine rb_goto ?_
                refine rn_step rfl ?_
                refine rb_iload rfl ?_
                refine rb_push ?_
                refine rb_cge (fun h => absurd h (by decide)) (fun _ => ?_)
                refine rb_aload rfl ?_
                refine rb_getf (v := .ref 74) rfl ?_
                refine rb_iload rfl ?_
                refine rb_aload rfl ?_
                refine rb_getf (v := .ref 69) rfl ?_
                refine rb_iload rfl ?_
                refine rb_iald rfl (by decide) (show _ = some (0) from rfl) ?_
                refine rb_iast rfl (by decide) (ok_lt (okL.sA (okL.sA (okL.sA (okL.sA (okL.sA (okL.sA (okL.sA (okL.sA (okL.sA (okL.sA (okL.sA (okL.sA (okL.sA (okL.sA (okL.sA (okL.sA (okL.sA (okL.sA (okL.sA (okL.sA (okL.sA (okL.sA (okL.sA (okL.sA (okL.sA (okL.sA (okL.sA (okL.sA (okL.sA (okL.sA (okL.sA (okL.sA (okL.sA (okL.sA (okL.sA (okL.sA (okL.sA (okL.sA (okL.sA (okL.sA (okL.sA (okL.sA (okL.sA (okL.sA (okL.sA (okL.sA (okL.sA (okL.sA (okL.sA (okL.sA (okL.sA (okL.sA s1_ok _ (List.length_set ..)) _ (List.length_set ..)) _ (List.length_set ..)) _ (List.length_set ..)) _ (List.length_set ..)) _ (List.length_set ..)) _ (List.length_set ..)) _ (List.length_set ..)) _ (List.length_set ..)) _ (List.length_set ..)) _ (List.length_set ..)) _ (List.length_set ..)) _ (List.length_set ..)) _ (List.length_set ..)) _ (List.length_set ..)) _ (List.length_set ..)) _ (List.length_set ..)) _ (List.length_set ..)) _ (List.length_set ..)) _ (List.length_set ..)) _ (List.length_set ..)) _ (List.length_set ..)) _ (List.length_set ..)) _ (List.length_set ..)) _ (List.length_set ..)) _ (List.length_set ..)) _ (List.length_set ..)) _ (List.length_set ..)) _ (List.length_set ..)) _ (List.length_set ..)) _ (List.length_set ..)) _ (List.length_set ..)) _ (List.length_set ..)) _ (List.length_set ..)) _ (List.length_set ..)) _ (List.length_set ..)) _ (List.length_set ..)) _ (List.length_set ..)) _ (List.length_set ..)) _ (List.length_set ..)) _ (List.length_set ..)) _ (List.length_set ..)) _ (List.length_set ..)) _ (List.length_set ..)) _ (List.length_set ..)) _ (List.length_set ..)) _ (List.length_set ..)) _ (List.length_set ..)) _ (List.length_set ..)) _ (List.length_set ..)) _ (List.length_set ..)) _ (List.length_set ..)) (c := 74) (n := 89) (by decide) rfl (by decide) (by decide)) (wa_74 _ _) ?_
                refine rb_iinc (lv' := [some (.ref 68), some (.int 53)]) rfl rfl ?_
                refine rb_goto ?_
                refine rn_step rfl ?_
                refine rb_iload rfl ?_
                refine rb_push ?_
                refine rb_cge (fun h => absurd h (by decide)) (fun _ => ?_)
                refine rb_aload rfl ?_
                refine rb_getf (v := .ref 74) rfl ?_
                refine rb_iload rfl ?_
                refine rb_aload rfl ?_
                refine rb_getf (v := .ref 69) rfl ?_
                refine rb_iload rfl ?_
                refine rb_iald rfl (by decide) (show _ = some (0) from rfl) ?_
                refine rb_iast rfl (by decide) (ok_lt (okL.sA (okL.sA (okL.sA (okL.sA (okL.sA (okL.sA (okL.sA (okL.sA (okL.sA (okL.sA (okL.sA (okL.sA (okL.sA (okL.sA (okL.sA (okL.sA (okL.sA (okL.sA (okL.sA (okL.sA (okL.sA (okL.sA (okL.sA (okL.sA (okL.sA (okL.sA (okL.sA (okL.sA (okL.sA (okL.sA (okL.sA (okL.sA (okL.sA (okL.sA (okL.sA (okL.sA (okL.sA (okL.sA (okL.sA (okL.sA (okL.sA (okL.sA (okL.sA (okL.sA (okL.sA (okL.sA (okL.sA (okL.sA (okL.sA (okL.sA (okL.sA (okL.sA (okL.sA s1_ok _ (List.length_set ..)) _ (List.length_set ..)) _ (List.length_set ..)) _ (List.length_set ..)) _ (List.length_set ..)) _ (List.length_set ..)) _ (List.length_set ..)) _ (List.length_set ..)) _ (List.length_set ..)) _ (List.length_set ..)) _ (List.length_set ..)) _ (List.length_set ..)) _ (List.length_set ..)) _ (List.length_set ..)) _ (List.length_set ..)) _ (List.length_set ..)) _ (List.length_set ..)) _ (List.length_set ..)) _ (List.length_set ..)) _ (List.length_set ..)) _ (List.length_set ..)) _ (List.length_set ..)) _ (List.length_set ..)) _ (List.length_set ..)) _ (List.length_set ..)) _ (List.length_set ..)) _ (List.length_set ..)) _ (List.length_set ..)) _ (List.length_set ..)) _ (List.length_set ..)) _ (List.length_set ..)) _ (List.length_set ..)) _ (List.length_set ..)) _ (List.length_set ..)) _ (List.length_set ..)) _ (List.length_set ..)) _ (List.length_set ..)) _ (List.length_set ..)) _ (List.length_set ..)) _ (List.length_set ..)) _ (List.length_set ..)) _ (List.length_set ..)) _ (List.length_set ..)) _ (List.length_set ..)) _ (List.length_set ..)) _ (List.length_set ..)) _ (List.length_set ..)) _ (List.length_set ..)) _ (List.length_set ..)) _ (List.length_set ..)) _ (List.length_set ..)) _ (List.length_set ..)) _ (List.length_set ..)) (c := 74) (n := 89) (by decide) rfl (by decide) (by decide)) (wa_74 _ _) ?_
                refine rb_iinc (lv' := [some (.ref 68), some (.int 54)]) rfl rfl ?_
                refine rb_goto ?_
                refine rn_step rfl ?_
                refine rb_iload rfl ?_
                refine rb_push ?_
                refine rb_cge (fun h => absurd h (by decide)) (fun _ => ?_)
                refine rb_aload rfl ?_
                refine rb_getf (v := .ref 74) rfl ?_
                refine rb_iload rfl ?_
                refine rb_aload rfl ?_
                refine rb_getf (v := .ref 69) rfl ?_
                refine rb_iload rfl ?_
                refine rb_iald rfl (by decide) (show _ = some (0) from rfl) ?_
                refine rb_iast rfl (by decide) (ok_lt (okL.sA (okL.sA (okL.sA (okL.sA (okL.sA (okL.sA (okL.sA (okL.sA (okL.sA (okL.sA (okL.sA (okL.sA (okL.sA (okL.sA (okL.sA (okL.sA (okL.sA (okL.sA (okL.sA (okL.sA (okL.sA (okL.sA (okL.sA (okL.sA (okL.sA (okL.sA (okL.sA (okL.sA (okL.sA (okL.sA (okL.sA (okL.sA (okL.sA (okL.sA (okL.sA (okL.sA (okL.sA (okL.sA (okL.sA (okL.sA (okL.sA (okL.sA (okL.sA (okL.sA (okL.sA (okL.sA (okL.sA (okL.sA (okL.sA (okL.sA (okL.sA (okL.sA (okL.sA (okL.sA s1_ok _ (List.length_set ..)) _ (List.length_set ..)) _ (List.length_set ..)) _ (List.length_set ..)) _ (List.length_set ..)) _ (List.length_set ..)) _ (List.length_set ..)) _ (List.length_set ..)) _ (List.length_set ..)) _ (List.length_set ..)) _ (List.length_set ..)) _ (List.length_set ..)) _ (List.length_set ..)) _ (List.length_set ..)) _ (List.length_set ..)) _ (List.length_set ..)) _ (List.length_set ..)) _ (List.length_set ..)) _ (List.length_set ..)) _ (List.length_set ..)) _ (List.length_set ..)) _ (List.length_set ..)) _ (List.length_set ..)) _ (List.length_set ..)) _ (List.length_set ..)) _ (List.length_set ..)) _ (List.length_set ..)) _ (List.length_set ..)) _ (List.length_set ..)) _ (List.length_set ..)) _ (List.length_set ..)) _ (List.length_set ..)) _ (List.length_set ..)) _ (List.length_set ..)) _ (List.length_set ..)) _ (List.length_set ..)) _ (List.length_set ..)) _ (List.length_set ..)) _ (List.length_set ..)) _ (List.length_set ..)) _ (List.length_set ..)) _ (List.length_set ..)) _ (List.length_set ..)) _ (List.length_set ..)) _ (List.length_set ..)) _ (List.length_set ..)) _ (List.length_set ..)) _ (List.length_set ..)) _ (List.length_set ..)) _ (List.length_set ..)) _ (List.length_set ..)) _ (List.length_set ..)) _ (List.length_set ..)) _ (List.length_set ..)) (c := 74) (n := 89) (by decide) rfl (by decide) (by decide)) (wa_74 _ _) ?_
                refine rb_iinc (lv' := [some (.ref 68), some (.int 55)]) rfl rfl ?_
                refine rb_goto ?_
                refine rn_step rfl ?_
                refine rb_iload rfl ?_
                refine rb_push ?_
                refine rb_cge (fun h => absurd h (by decide)) (fun _ => ?_)
                refine rb_aload rfl ?_
                refine rb_getf (v := .ref 74) rfl ?_
                refine rb_iload rfl ?_
                refine rb_aload rfl ?_
                refine rb_getf (v := .ref 69) rfl ?_
                refine rb_iload rfl ?_
                refine rb_iald rfl (by decide) (show _ = some (0) from rfl) ?_
                refine rb_iast rfl (by decide) (ok_lt (okL.sA (okL.sA (okL.sA (okL.sA (okL.sA (okL.sA (okL.sA (okL.sA (okL.sA (okL.sA (okL.sA (okL.sA (okL.sA (okL.sA (okL.sA (okL.sA (okL.sA (okL.sA (okL.sA (okL.sA (okL.sA (okL.sA (okL.sA (okL.sA (okL.sA (okL.sA (okL.sA (okL.sA (okL.sA (okL.sA (okL.sA (okL.sA (okL.sA (okL.sA (okL.sA (okL.sA (okL.sA (okL.sA (okL.sA (okL.sA (okL.sA (okL.sA (okL.sA (okL.sA (okL.sA (okL.sA (okL.sA (okL.sA (okL.sA (okL.sA (okL.sA (okL.sA (okL.sA (okL.sA (okL.sA s1_ok _ (List.length_set ..)) _ (List.length_set ..)) _ (List.length_set ..)) _ (List.length_set ..)) _ (List.length_set ..)) _ (List.length_set ..)) _ (List.length_set ..)) _ (List.length_set ..)) _ (List.length_set ..)) _ (List.length_set ..)) _ (List.length_set ..)) _ (List.length_set ..)) _ (List.length_set ..)) _ (List.length_set ..)) _ (List.length_set ..)) _ (List.length_set ..)) _ (List.length_set ..)) _ (List.length_set ..)) _ (List.length_set ..)) _ (List.length_set ..)) _ (List.length_set ..)) _ (List.length_set ..)) _ (List.length_set ..)) _ (List.length_set ..)) _ (List.length_set ..)) _ (List.length_set ..)) _ (List.length_set ..)) _ (List.length_set ..)) _ (List.length_set ..)) _ (List.length_set ..)) _ (List.length_set ..)) _ (List.length_set ..)) _ (List.length_set ..)) _ (List.length_set ..)) _ (List.length_set ..)) _ (List.length_set ..)) _ (List.length_set ..)) _ (List.length_set ..)) _ (List.length_set ..)) _ (List.length_set ..)) _ (List.length_set ..)) _ (List.length_set ..)) _ (List.length_set ..)) _ (List.length_set ..)) _ (List.length_set ..)) _ (List.length_set ..)) _ (List.length_set ..)) _ (List.length_set ..)) _ (List.length_set ..)) _ (List.length_set ..)) _ (List.length_set ..)) _ (List.length_set ..)) _ (List.length_set ..)) _ (List.length_set ..)) _ (List.length_set ..)) (c := 74) (n := 89) (by decide) rfl (by decide) (by decide)) (wa_74 _ _) ?_
                refine rb_iinc (lv' := [some (.ref 68), some (.int 56)]) rfl rfl ?_
                refine rb_goto ?_
                refine rn_step rfl ?_
                refine rb_iload rfl ?_
                refine rb_push ?_
                refine rb_cge (fun h => absurd h (by decide)) (fun _ => ?_)
                refine rb_aload rfl ?_
                refine rb_getf (v := .ref 74) rfl ?_
                refine rb_iload rfl ?_
                refine rb_aload rfl ?_
                refine rb_getf (v := .ref 69) rfl ?_
                refine rb_iload rfl ?_
                refine rb_iald rfl (by decide) (show _ = some (0) from rfl) ?_
                refine rb_iast rfl (by decide) (ok_lt (okL.sA (okL.sA (okL.sA (okL.sA (okL.sA (okL.sA (okL.sA (okL.sA (okL.sA (okL.sA (okL.sA (okL.sA (okL.sA (okL.sA (okL.sA (okL.sA (okL.sA (okL.sA (okL.sA (okL.sA (okL.sA (okL.sA (okL.sA (okL.sA (okL.sA (okL.sA (okL.sA (okL.sA (okL.sA (okL.sA (okL.sA (okL.sA (okL.sA (okL.sA (okL.sA (okL.sA (okL.sA (okL.sA (okL.sA (okL.sA (okL.sA (okL.sA (okL.sA (okL.sA (okL.sA (okL.sA (okL.sA (okL.sA (okL.sA (okL.sA (okL.sA (okL.sA (okL.sA (okL.sA (okL.sA (okL.sA s1_ok _ (List.length_set ..)) _ (List.length_set ..)) _ (List.length_set ..)) _ (List.length_set ..)) _ (List.length_set ..)) _ (List.length_set ..)) _ (List.length_set ..)) _ (List.length_set ..)) _ (List.length_set ..)) _ (List.length_set ..)) _ (List.length_set ..)) _ (List.length_set ..)) _ (List.length_set ..)) _ (List.length_set ..)) _ (List.length_set ..)) _ (List.length_set ..)) _ (List.length_set ..)) _ (List.length_set ..)) _ (List.length_set ..)) _ (List.length_set ..)) _ (List.length_set ..)) _ (List.length_set ..)) _ (List.length_set ..)) _ (List.length_set ..)) _ (List.length_set ..)) _ (List.length_set ..)) _ (List.length_set ..)) _ (List.length_set ..)) _ (List.length_set ..)) _ (List.length_set ..)) _ (List.length_set ..)) _ (List.length_set ..)) _ (List.length_set ..)) _ (List.length_set ..)) _ (List.length_set ..)) _ (List.length_set ..)) _ (List.length_set ..)) _ (List.length_set ..)) _ (List.length_set ..)) _ (List.length_set ..)) _ (List.length_set ..)) _ (List.length_set ..)) _ (List.length_set ..)) _ (List.length_set ..)) _ (List.length_set ..)) _ (List.length_set ..)) _ (List.length_set ..)) _ (List.length_set ..)) _ (List.length_set ..)) _ (List.length_set ..)) _ (List.length_set ..)) _ (List.length_set ..)) _ (List.length_set ..)) _ (List.length_set ..)) _ (List.length_set ..)) _ (List.length_set ..)) (c := 74) (n := 89) (by decide) rfl (by decide) (by decide)) (wa_74 _ _) ?_
                refine rb_iinc (lv' := [some (.ref 68), some (.int 57)]) rfl rfl ?_
                refine rb_goto ?_
                refine rn_step rfl ?_
                refine rb_iload rfl ?_
                refine rb_push ?_
                refine rb_cge (fun h => absurd h (by decide)) (fun _ => ?_)
                refine rb_aload rfl ?_
                refine rb_getf (v := .ref 74) rfl ?_
                refine rb_iload rfl ?_
                refine rb_aload rfl ?_
                refine rb_getf (v := .ref 69) rfl ?_
                refine rb_iload rfl ?_
                refine rb_iald rfl (by decide) (show _ = some (0) from rfl) ?_
                refine rb_iast rfl (by decide) (ok_lt (okL.sA (okL.sA (okL.sA (okL.sA (okL.sA (okL.sA (okL.sA (okL.sA (okL.sA (okL.sA (okL.sA (okL.sA (okL.sA (okL.sA (okL.sA (okL.sA (okL.sA (okL.sA (okL.sA (okL.sA (okL.sA (okL.sA (okL.sA (okL.sA (okL.sA (okL.sA (okL.sA (okL.sA (okL.sA (okL.sA (okL.sA (okL.sA (okL.sA (okL.sA (okL.sA (okL.sA (okL.sA (okL.sA (okL.sA (okL.sA (okL.sA (okL.sA (okL.sA (okL.sA (okL.sA (okL.sA (okL.sA (okL.sA (okL.sA (okL.sA (okL.sA (okL.sA (okL.sA (okL.sA (okL.sA (okL.sA (okL.sA s1_ok _ (List.length_set ..)) _ (List.length_set ..)) _ (List.length_set ..)) _ (List.length_set ..)) _ (List.length_set ..)) _ (List.length_set ..)) _ (List.length_set ..)) _ (List.length_set ..)) _ (List.length_set ..)) _ (List.length_set ..)) _ (List.length_set ..)) _ (List.length_set ..)) _ (List.length_set ..)) _ (List.length_set ..)) _ (List.length_set ..)) _ (List.length_set ..)) _ (List.length_set ..)) _ (List.length_set ..)) _ (List.length_set ..)) _ (List.length_set ..)) _ (List.length_set ..)) _ (List.length_set ..)) _ (List.length_set ..)) _ (List.length_set ..)) _ (List.length_set ..)) _ (List.length_set ..)) _ (List.length_set ..)) _ (List.length_set ..)) _ (List.length_set ..)) _ (List.length_set ..)) _ (List.length_set ..)) _ (List.length_set ..)) _ (List.length_set ..)) _ (List.length_set ..)) _ (List.length_set ..)) _ (List.length_set ..)) _ (List.length_set ..)) _ (List.length_set ..)) _ (List.length_set ..)) _ (List.length_set ..)) _ (List.length_set ..)) _ (List.length_set ..)) _ (List.length_set ..)) _ (List.length_set ..)) _ (List.length_set ..)) _ (List.length_set ..)) _ (List.length_set ..)) _ (List.length_set ..)) _ (List.length_set ..)) _ (List.length_set ..)) _ (List.length_set ..)) _ (List.length_set ..)) _ (List.length_set ..)) _ (List.length_set ..)) _ (List.length_set ..)) _ (List.length_set ..)) _ (List.length_set ..)) (c := 74) (n := 89) (by decide) rfl (by decide) (by decide)) (wa_74 _ _) ?_
                refine rb_iinc (lv' := [some (.ref 68), some (.int 58)]) rfl rfl ?_
                refine rb_goto ?_
                refine rn_step rfl ?_
                refine rb_iload rfl ?_
                refine rb_push ?_
                refine rb_cge (fun h => absurd h (by decide)) (fun _ => ?_)
                refine rb_aload rfl ?_
                refine rb_getf (v := .ref 74) rfl ?_
                refine rb_iload rfl ?_
                refine rb_aload rfl ?_
                refine rb_getf (v := .ref 69) rfl ?_
                refine rb_iload rfl ?_
                refine rb_iald rfl (by decide) (show _ = some (0) from rfl) ?_
                refine rb_iast rfl (by decide) (ok_lt (okL.sA (okL.sA (okL.sA (okL.sA (okL.sA (okL.sA (okL.sA (okL.sA (okL.sA (okL.sA (okL.sA (okL.sA (okL.sA (okL.sA (okL.sA (okL.sA (okL.sA (okL.sA (okL.sA (okL.sA (okL.sA (okL.sA (okL.sA (okL.sA (okL.sA (okL.sA (okL.sA (okL.sA (okL.sA (okL.sA (okL.sA (okL.sA (okL.sA (okL.sA (okL.sA (okL.sA (okL.sA (okL.sA (okL.sA (okL.sA (okL.sA (okL.sA (okL.sA (okL.sA (okL.sA (okL.sA (okL.sA (okL.sA (okL.sA (okL.sA (okL.sA (okL.sA (okL.sA (okL.sA (okL.sA (okL.sA (okL.sA (okL.sA s1_ok _ (List.length_set ..)) _ (List.length_set ..)) _ (List.length_set ..)) _ (List.length_set ..)) _ (List.length_set ..)) _ (List.length_set ..)) _ (List.length_set ..)) _ (List.length_set ..)) _ (List.length_set ..)) _ (List.length_set ..)) _ (List.length_set ..)) _ (List.length_set ..)) _ (List.length_set ..)) _ (List.length_set ..)) _ (List.length_set ..)) _ (List.length_set ..)) _ (List.length_set ..)) _ (List.length_set ..)) _ (List.length_set ..)) _ (List.length_set ..)) _ (List.length_set ..)) _ (List.length_set ..)) _ (List.length_set ..)) _ (List.length_set ..)) _ (List.length_set ..)) _ (List.length_set ..)) _ (List.length_set ..)) _ (List.length_set ..)) _ (List.length_set ..)) _ (List.length_set ..)) _ (List.length_set ..)) _ (List.length_set ..)) _ (List.length_set ..)) _ (List.length_set ..)) _ (List.length_set ..)) _ (List.length_set ..)) _ (List.length_set ..)) _ (List.length_set ..)) _ (List.length_set ..)) _ (List.length_set ..)) _ (List.length_set ..)) _ (List.length_set ..)) _ (List.length_set ..)) _ (List.length_set ..)) _ (List.length_set ..)) _ (List.length_set ..)) _ (List.length_set ..)) _ (List.length_set ..)) _ (List.length_set ..)) _ (List.length_set ..)) _ (List.length_set ..)) _ (List.length_set ..)) _ (List.length_set ..)) _ (List.length_set ..)) _ (List.length_set ..)) _ (List.length_set ..)) _ (List.length_set ..)) _ (List.length_set ..)) (c := 74) (n := 89) (by decide) rfl (by decide) (by decide)) (wa_74 _ _) ?_
                refine rb_iinc (lv' := [some (.ref 68), some (.int 59)]) rfl rfl ?_
                refine rb_goto ?_
                refine rn_step rfl ?_
                refine rb_iload rfl ?_
                refine rb_push ?_
                refine rb_cge (fun h => absurd h (by decide)) (fun _ => ?_)
                refine rb_aload rfl ?_
                refine rb_getf (v := .ref 74) rfl ?_
                refine rb_iload rfl ?_
                refine rb_aload rfl ?_
                refine rb_getf (v := .ref 69) rfl ?_
                refine rb_iload rfl ?_
                refine rb_iald rfl (by decide) (show _ = some (0) from rfl) ?_
                refine rb_iast rfl (by decide) (ok_lt (okL.sA (okL.sA (okL.sA (okL.sA (okL.sA (okL.sA (okL.sA (okL.sA (okL.sA (okL.sA (okL.sA (okL.sA (okL.sA (okL.sA (okL.sA (okL.sA (okL.sA (okL.sA (okL.sA (okL.sA (okL.sA (okL.sA (okL.sA (okL.sA (okL.sA (okL.sA (okL.sA (okL.sA (okL.sA (okL.sA (okL.sA (okL.sA (okL.sA (okL.sA (okL.sA (okL.sA (okL.sA (okL.sA (okL.sA (okL.sA (okL.sA (okL.sA (okL.sA (okL.sA (okL.sA (okL.sA (okL.sA (okL.sA (okL.sA (okL.sA (okL.sA (okL.sA (okL.sA (okL.sA (okL.sA (okL.sA (okL.sA (okL.sA (okL.sA s1_ok _ (List.length_set ..)) _ (List.length_set ..)) _ (List.length_set ..)) _ (List.length_set ..)) _ (List.length_set ..)) _ (List.length_set ..)) _ (List.length_set ..)) _ (List.length_set ..)) _ (List.length_set ..)) _ (List.length_set ..)) _ (List.length_set ..)) _ (List.length_set ..)) _ (List.length_set ..)) _ (List.length_set ..)) _ (List.length_set ..)) _ (List.length_set ..)) _ (List.length_set ..)) _ (List.length_set ..)) _ (List.length_set ..)) _ (List.length_set ..)) _ (List.length_set ..)) _ (List.length_set ..)) _ (List.length_set ..)) _ (List.length_set ..)) _ (List.length_set ..)) _ (List.length_set ..)) _ (List.length_set ..)) _ (List.length_set ..)) _ (List.length_set ..)) _ (List.length_set ..)) _ (List.length_set ..)) _ (List.length_set ..)) _ (List.length_set ..)) _ (List.length_set ..)) _ (List.length_set ..)) _ (List.length_set ..)) _ (List.length_set ..)) _ (List.length_set ..)) _ (List.length_set ..)) _ (List.length_set ..)) _ (List.length_set ..)) _ (List.length_set ..)) _ (List.length_set ..)) _ (List.length_set ..)) _ (List.length_set ..)) _ (List.length_set ..)) _ (List.length_set ..)) _ (List.length_set ..)) _ (List.length_set ..)) _ (List.length_set ..)) _ (List.length_set ..)) _ (List.length_set ..)) _ (List.length_set ..)) _ (List.length_set ..)) _ (List.length_set ..)) _ (List.length_set ..)) _ (List.length_set ..)) _ (List.length_set ..)) _ (List.length_set ..)) (c := 74) (n := 89) (by decide) rfl (by decide) (by decide)) (wa_74 _ _) ?_
                refine rb_iinc (lv' := [some (.ref 68), some (.int 60)]) rfl rfl ?_
                refine rb_goto ?_
                refine rn_step rfl ?_
                refine rb_iload rfl ?_
                refine rb_push ?_
                refine rb_cge (fun h => absurd h (by decide)) (fun _ => ?_)
                refine rb_aload rfl ?_
                refine rb_getf (v := .ref 74) rfl ?_
                refine rb_iload rfl ?_
                refine rb_aload rfl ?_
                refine rb_getf (v := .ref 69) rfl ?_
                refine rb_iload rfl ?_
                refine rb_iald rfl (by decide) (show _ = some (0) from rfl) ?_
                refine rb_iast rfl (by decide) (ok_lt (okL.sA (okL.sA (okL.sA (okL.sA (okL.sA (okL.sA (okL.sA (okL.sA (okL.sA (okL.sA (okL.sA (okL.sA (okL.sA (okL.sA (okL.sA (okL.sA (okL.sA (okL.sA (okL.sA (okL.sA (okL.sA (okL.sA (okL.sA (okL.sA (okL.sA (okL.sA (okL.sA (okL.sA (okL.sA (okL.sA (okL.sA (okL.sA (okL.sA (okL.sA (okL.sA (okL.sA (okL.sA (okL.sA (okL.sA (okL.sA (okL.sA (okL.sA (okL.sA (okL.sA (okL.sA (okL.sA (okL.sA (okL.sA (okL.sA (okL.sA (okL.sA (okL.sA (okL.sA (okL.sA (okL.sA (okL.sA (okL.sA (okL.sA (okL.sA (okL.sA s1_ok _ (List.length_set ..)) _ (List.length_set ..)) _ (List.length_set ..)) _ (List.length_set ..)) _ (List.length_set ..)) _ (List.length_set ..)) _ (List.length_set ..)) _ (List.length_set ..)) _ (List.length_set ..)) _ (List.length_set ..)) _ (List.length_set ..)) _ (List.length_set ..)) _ (List.length_set ..)) _ (List.length_set ..)) _ (List.length_set ..)) _ (List.length_set ..)) _ (List.length_set ..)) _ (List.length_set ..)) _ (List.length_set ..)) _ (List.length_set ..)) _ (List.length_set ..)) _ (List.length_set ..)) _ (List.length_set ..)) _ (List.length_set ..)) _ (List.length_set ..)) _ (List.length_set ..)) _ (List.length_set ..)) _ (List.length_set ..)) _ (List.length_set ..)) _ (List.length_set ..)) _ (List.length_set ..)) _ (List.length_set ..)) _ (List.length_set ..)) _ (List.length_set ..)) _ (List.length_set ..)) _ (List.length_set ..)) _ (List.length_set ..)) _ (List.length_set ..)) _ (List.length_set ..)) _ (List.length_set ..)) _ (List.length_set ..)) _ (List.length_set ..)) _ (List.length_set ..)) _ (List.length_set ..)) _ (List.length_set ..)) _ (List.length_set ..)) _ (List.length_set ..)) _ (List.length_set ..)) _ (List.length_set ..)) _ (List.length_set ..)) _ (List.length_set ..)) _ (List.length_set ..)) _ (List.length_set ..)) _ (List.length_set ..)) _ (List.length_set ..)) _ (List.length_set ..)) _ (List.length_set ..)) _ (List.length_set ..)) _ (List.length_set ..)) _ (List.length_set ..)) (c := 74) (n := 89) (by decide) rfl (by decide) (by decide)) (wa_74 _ _) ?_
                refine rb_iinc (lv' := [some (.ref 68), some (.int 61)]) rfl rfl ?_
                refine rb_goto ?_
                refine rn_step rfl ?_
                refine rb_iload rfl ?_
                refine rb_push ?_
                refine rb_cge (fun h => absurd h (by decide)) (fun _ => ?_)
                refine rb_aload rfl ?_
                refine rb_getf (v := .ref 74) rfl ?_
                refine rb_iload rfl ?_
                refine rb_aload rfl ?_
                refine rb_getf (v := .ref 69) rfl ?_
                refine rb_iload rfl ?_
                refine rb_iald rfl (by decide) (show _ = some (0) from rfl) ?_
                refine rb_iast rfl (by decide) (ok_lt (okL.sA (okL.sA (okL.sA (okL.sA (okL.sA (okL.sA (okL.sA (okL.sA (okL.sA (okL.sA (okL.sA (okL.sA (okL.sA (okL.sA (okL.sA (okL.sA (okL.sA (okL.sA (okL.sA (okL.sA (okL.sA (okL.sA (okL.sA (okL.sA (okL.sA (okL.sA (okL.sA (okL.sA (okL.sA (okL.sA (okL.sA (okL.sA (okL.sA (okL.sA (okL.sA (okL.sA (okL.sA (okL.sA (okL.sA (okL.sA (okL.sA (okL.sA (okL.sA (okL.sA (okL.sA (okL.sA (okL.sA (okL.sA (okL.sA (okL.sA (okL.sA (okL.sA (okL.sA (okL.sA (okL.sA (okL.sA (okL.sA (okL.sA (okL.sA (okL.sA (okL.sA s1_ok _ (List.length_set ..)) _ (List.length_set ..)) _ (List.length_set ..)) _ (List.length_set ..)) _ (List.length_set ..)) _ (List.length_set ..)) _ (List.length_set ..)) _ (List.length_set ..)) _ (List.length_set ..)) _ (List.length_set ..)) _ (List.length_set ..)) _ (List.length_set ..)) _ (List.length_set ..)) _ (List.length_set ..)) _ (List.length_set ..)) _ (List.length_set ..)) _ (List.length_set ..)) _ (List.length_set ..)) _ (List.length_set ..)) _ (List.length_set ..)) _ (List.length_set ..)) _ (List.length_set ..)) _ (List.length_set ..)) _ (List.length_set ..)) _ (List.length_set ..)) _ (List.length_set ..)) _ (List.length_set ..)) _ (List.length_set ..)) _ (List.length_set ..)) _ (List.length_set ..)) _ (List.length_set ..)) _ (List.length_set ..)) _ (List.length_set ..)) _ (List.length_set ..)) _ (List.length_set ..)) _ (List.length_set ..)) _ (List.length_set ..)) _ (List.length_set ..)) _ (List.length_set ..)) _ (List.length_set ..)) _ (List.length_set ..)) _ (List.length_set ..)) _ (List.length_set ..)) _ (List.length_set ..)) _ (List.length_set ..)) _ (List.length_set ..)) _ (List.length_set ..)) _ (List.length_set ..)) _ (List.length_set ..)) _ (List.length_set ..)) _ (List.length_set ..)) _ (List.length_set ..)) _ (List.length_set ..)) _ (List.length_set ..)) _ (List.length_set ..)) _ (List.length_set ..)) _ (List.length_set ..)) _ (List.length_set ..)) _ (List.length_set ..)) _ (List.length_set ..)) _ (List.length_set ..)) (c := 74) (n := 89) (by decide) rfl (by decide) (by decide)) (wa_74 _ _) ?_
                refine rb_iinc (lv' := [some (.ref 68), some (.int 62)]) rfl rfl ?_
                refine rb_goto ?_
                refine rn_step rfl ?_
                refine rb_iload rfl ?_
                refine rb_push ?_
                refine rb_cge (fun h => absurd h (by decide)) (fun _ => ?_)
                refine rb_aload rfl ?_
                refine rb_getf (v := .ref 74) rfl ?_
                refine rb_iload rfl ?_
                refine rb_aload rfl ?_
                refine rb_getf (v := .ref 69) rfl ?_
                refine rb_iload rfl ?_
                refine rb_iald rfl (by decide) (show _ = some (0) from rfl) ?_
                refine rb_iast rfl (by decide) (ok_lt (okL.sA (okL.sA (okL.sA (okL.sA (okL.sA (okL.sA (okL.sA (okL.sA (okL.sA (okL.sA (okL.sA (okL.sA (okL.sA (okL.sA (okL.sA (okL.sA (okL.sA (okL.sA (okL.sA (okL.sA (okL.sA (okL.sA (okL.sA (okL.sA (okL.sA (okL.sA (okL.sA (okL.sA (okL.sA (okL.sA (okL.sA (okL.sA (okL.sA (okL.sA (okL.sA (okL.sA (okL.sA (okL.sA (okL.sA (okL.sA (okL.sA (okL.sA (okL.sA (okL.sA (okL.sA (okL.sA (okL.sA (okL.sA (okL.sA (okL.sA (okL.sA (okL.sA (okL.sA (okL.sA (okL.sA (okL.sA (okL.sA (okL.sA (okL.sA (okL.sA (okL.sA (okL.sA s1_ok _ (List.length_set ..)) _ (List.length_set ..)) _ (List.length_set ..)) _ (List.length_set ..)) _ (List.length_set ..)) _ (List.length_set ..)) _ (List.length_set ..)) _ (List.length_set ..)) _ (List.length_set ..)) _ (List.length_set ..)) _ (List.length_set ..)) _ (List.length_set ..)) _ (List.length_set ..)) _ (List.length_set ..)) _ (List.length_set ..)) _ (List.length_set ..)) _ (List.length_set ..)) _ (List.length_set ..)) _ (List.length_set ..)) _ (List.length_set ..)) _ (List.length_set ..)) _ (List.length_set ..)) _ (List.length_set ..)) _ (List.length_set ..)) _ (List.length_set ..)) _ (List.length_set ..)) _ (List.length_set ..)) _ (List.length_set ..)) _ (List.length_set ..)) _ (List.length_set ..)) _ (List.length_set ..)) _ (List.length_set ..)) _ (List.length_set ..)) _ (List.length_set ..)) _ (List.length_set ..)) _ (List.length_set ..)) _ (List.length_set ..)) _ (List.length_set ..)) _ (List.length_set ..)) _ (List.length_set ..)) _ (List.length_set ..)) _ (List.length_set ..)) _ (List.length_set ..)) _ (List.length_set ..)) _ (List.length_set ..)) _ (List.length_set ..)) _ (List.length_set ..)) _ (List.length_set ..)) _ (List.length_set ..)) _ (List.length_set ..)) _ (List.length_set ..)) _ (List.length_set ..)) _ (List.length_set ..)) _ (List.length_set ..)) _ (List.length_set ..)) _ (List.length_set ..)) _ (List.length_set ..)) _ (List.length_set ..)) _ (List.length_set ..)) _ (List.length_set ..)) _ (List.length_set ..)) _ (List.length_set ..)) (c := 74) (n := 89) (by decide) rfl (by decide) (by decide)) (wa_74 _ _) ?_
                refine rb_iinc (lv' := [some (.ref 68), some (.int 63)]) rfl rfl ?_
                refine rb_goto ?_
                refine rn_step rfl ?_
                refine rb_iload rfl ?_
                refine rb_push ?_
                refine rb_cge (fun h => absurd h (by decide)) (fun _ => ?_)
                refine rb_aload rfl ?_
                refine rb_getf (v := .ref 74) rfl ?_
                refine rb_iload rfl ?_
                refine rb_aload rfl ?_
                refine rb_getf (v := .ref 69) rfl ?_
                refine rb_iload rfl ?_
                refine rb_iald rfl (by decide) (show _ = some (0) from rfl) ?_
                refine rb_iast rfl (by decide) (ok_lt (okL.sA (okL.sA (okL.sA (okL.sA (okL.sA (okL.sA (okL.sA (okL.sA (okL.sA (okL.sA (okL.sA (okL.sA (okL.sA (okL.sA (okL.sA (okL.sA (okL.sA (okL.sA (okL.sA (okL.sA (okL.sA (okL.sA (okL.sA (okL.sA (okL.sA (okL.sA (okL.sA (okL.sA (okL.sA (okL.sA (okL.sA (okL.sA (okL.sA (okL.sA (okL.sA (okL.sA (okL.sA (okL.sA (okL.sA (okL.sA (okL.sA (okL.sA (okL.sA (okL.sA (okL.sA (okL.sA (okL.sA (okL.sA (okL.sA (okL.sA (okL.sA (okL.sA (okL.sA (okL.sA (okL.sA (okL.sA (okL.sA (okL.sA (okL.sA (okL.sA (okL.sA (okL.sA (okL.sA s1_ok _ (List.length_set ..)) _ (List.length_set ..)) _ (List.length_set ..)) _ (List.length_set ..)) _ (List.length_set ..)) _ (List.length_set ..)) _ (List.length_set ..)) _ (List.length_set ..)) _ (List.length_set ..)) _ (List.length_set ..)) _ (List.length_set ..)) _ (List.length_set ..)) _ (List.length_set ..)) _ (List.length_set ..)) _ (List.length_set ..)) _ (List.length_set ..)) _ (List.length_set ..)) _ (List.length_set ..)) _ (List.length_set ..)) _ (List.length_set ..)) _ (List.length_set ..)) _ (List.length_set ..)) _ (List.length_set ..)) _ (List.length_set ..)) _ (List.length_set ..)) _ (List.length_set ..)) _ (List.length_set ..)) _ (List.length_set ..)) _ (List.length_set ..)) _ (List.length_set ..)) _ (List.length_set ..)) _ (List.length_set ..)) _ (List.length_set ..)) _ (List.length_set ..)) _ (List.length_set ..)) _ (List.length_set ..)) _ (List.length_set ..)) _ (List.length_set ..)) _ (List.length_set ..)) _ (List.length_set ..)) _ (List.length_set ..)) _ (List.length_set ..)) _ (List.length_set ..)) _ (List.length_set ..)) _ (List.length_set ..)) _ (List.length_set ..)) _ (List.length_set ..)) _ (List.length_set ..)) _ (List.length_set ..)) _ (List.length_set ..)) _ (List.length_set ..)) _ (List.length_set ..)) _ (List.length_set ..)) _ (List.length_set ..)) _ (List.length_set ..)) _ (List.length_set ..)) _ (List.length_set ..)) _ (List.length_set ..)) _ (List.length_set ..)) _ (List.length_set ..)) _ (List.length_set ..)) _ (List.length_set ..)) _ (List.length_set ..)) (c := 74) (n := 89) (by decide) rfl (by decide) (by decide)) (wa_74 _ _) ?_
                refine rb_iinc (lv' := [some (.ref 68), some (.int 64)]) rfl rfl ?_
                refine rb_goto ?_
                refine rn_step rfl ?_
                refine rb_iload rfl ?_
                refine rb_push ?_
                refine rb_cge (fun h => absurd h (by decide)) (fun _ => ?_)
                refine rb_aload rfl ?_
                refine rb_getf (v := .ref 74) rfl ?_
                refine rb_iload rfl ?_
                refine rb_aload rfl ?_
                refine rb_getf (v := .ref 69) rfl ?_
                refine rb_iload rfl ?_
                refine rb_iald rfl (by decide) (show _ = some (0) from rfl) ?_
                refine rb_iast rfl (by decide) (ok_lt (okL.sA (okL.sA (okL.sA (okL.sA (okL.sA (okL.sA (okL.sA (okL.sA (okL.sA (okL.sA (okL.sA (okL.sA (okL.sA (okL.sA (okL.sA (okL.sA (okL.sA (okL.sA (okL.sA (okL.sA (okL.sA (okL.sA (okL.sA (okL.sA (okL.sA (okL.sA (okL.sA (okL.sA (okL.sA (okL.sA (okL.sA (okL.sA (okL.sA (okL.sA (okL.sA (okL.sA (okL.sA (okL.sA (okL.sA (okL.sA (okL.sA (okL.sA (okL.sA (okL.sA (okL.sA (okL.sA (okL.sA (okL.sA (okL.sA (okL.sA (okL.sA (okL.sA (okL.sA (okL.sA (okL.sA (okL.sA (okL.sA (okL.sA (okL.sA (okL.sA (okL.sA (okL.sA (okL.sA (okL.sA s1_ok _ (List.length_set ..)) _ (List.length_set ..)) _ (List.length_set ..)) _ (List.length_set ..)) _ (List.length_set ..)) _ (List.length_set ..)) _ (List.length_set ..)) _ (List.length_set ..)) _ (List.length_set ..)) _ (List.length_set ..)) _ (List.length_set ..)) _ (List.length_set ..)) _ (List.length_set ..)) _ (List.length_set ..)) _ (List.length_set ..)) _ (List.length_set ..)) _ (List.length_set ..)) _ (List.length_set ..)) _ (List.length_set ..)) _ (List.length_set ..)) _ (List.length_set ..)) _ (List.length_set ..)) _ (List.length_set ..)) _ (List.length_set ..)) _ (List.length_set ..)) _ (List.length_set ..)) _ (List.length_set ..)) _ (List.length_set ..)) _ (List.length_set ..)) _ (List.length_set ..)) _ (List.length_set ..)) _ (List.length_set ..)) _ (List.length_set ..)) _ (List.length_set ..)) _ (List.length_set ..)) _ (List.length_set ..)) _ (List.length_set ..)) _ (List.length_set ..)) _ (List.length_set ..)) _ (List.length_set ..)) _ (List.length_set ..)) _ (List.length_set ..)) _ (List.length_set ..)) _ (List.length_set ..)) _ (List.length_set ..)) _ (List.length_set ..)) _ (List.length_set ..)) _ (List.length_set ..)) _ (List.length_set ..)) _ (List.length_set ..)) _ (List.length_set ..)) _ (List.length_set ..)) _ (List.length_set ..)) _ (List.length_set ..)) _ (List.length_set ..)) _ (List.length_set ..)) _ (List.length_set ..)) _ (List.length_set ..)) _ (List.length_set ..)) _ (List.length_set ..)) _ (List.length_set ..)) _ (List.length_set ..)) _ (List.length_set ..)) _ (List.length_set ..)) (c := 74) (n := 89) (by decide) rfl (by decide) (by decide)) (wa_74 _ _) ?_
                refine rb_iinc (lv' := [some (.ref 68), some (.int 65)]) rfl rfl ?_
                refine rb_goto ?_
                refine rn_step rfl ?_
                refine rb_iload rfl ?_
                refine rb_push ?_
                refine rb_cge (fun h => absurd h (by decide)) (fun _ => ?_)
                refine rb_aload rfl ?_
                refine rb_getf (v := .ref 74) rfl ?_
                refine rb_iload rfl ?_
                refine rb_aload rfl ?_
                refine rb_getf (v := .ref 69) rfl ?_
                refine rb_iload rfl ?_
                refine rb_iald rfl (by decide) (show _ = some (0) from rfl) ?_
                refine rb_iast rfl (by decide) (ok_lt (okL.sA (okL.sA (okL.sA (okL.sA (okL.sA (okL.sA (okL.sA (okL.sA (okL.sA (okL.sA (okL.sA (okL.sA (okL.sA (okL.sA (okL.sA (okL.sA (okL.sA (okL.sA (okL.sA (okL.sA (okL.sA (okL.sA (okL.sA (okL.sA (okL.sA (okL.sA (okL.sA (okL.sA (okL.sA (okL.sA (okL.sA (okL.sA (okL.sA (okL.sA (okL.sA (okL.sA (okL.sA (okL.sA (okL.sA (okL.sA (okL.sA (okL.sA (okL.sA (okL.sA (okL.sA (okL.sA (okL.sA (okL.sA (okL.sA (okL.sA (okL.sA (okL.sA (okL.sA (okL.sA (okL.sA (okL.sA (okL.sA (okL.sA (okL.sA (okL.sA (okL.sA (okL.sA (okL.sA (okL.sA (okL.sA s1_ok _ (List.length_set ..)) _ (List.length_set ..)) _ (List.length_set ..)) _ (List.length_set ..)) _ (List.length_set ..)) _ (List.length_set ..)) _ (List.length_set ..)) _ (List.length_set ..)) _ (List.length_set ..)) _ (List.length_set ..)) _ (List.length_set ..)) _ (List.length_set ..)) _ (List.length_set ..)) _ (List.length_set ..)) _ (List.length_set ..)) _ (List.length_set ..)) _ (List.length_set ..)) _ (List.length_set ..)) _ (List.length_set ..)) _ (List.length_set ..)) _ (List.length_set ..)) _ (List.length_set ..)) _ (List.length_set ..)) _ (List.length_set ..)) _ (List.length_set ..)) _ (List.length_set ..)) _ (List.length_set ..)) _ (List.length_set ..)) _ (List.length_set ..)) _ (List.length_set ..)) _ (List.length_set ..)) _ (List.length_set ..)) _ (List.length_set ..)) _ (List.length_set ..)) _ (List.length_set ..)) _ (List.length_set ..)) _ (List.length_set ..)) _ (List.length_set ..)) _ (List.length_set ..)) _ (List.length_set ..)) _ (List.length_set ..)) _ (List.length_set ..)) _ (List.length_set ..)) _ (List.length_set ..)) _ (List.length_set ..)) _ (List.length_set ..)) _ (List.length_set ..)) _ (List.length_set ..)) _ (List.length_set ..)) _ (List.length_set ..)) _ (List.length_set ..)) _ (List.length_set ..)) _ (List.length_set ..)) _ (List.length_set ..)) _ (List.length_set ..)) _ (List.length_set ..)) _ (List.length_set ..)) _ (List.length_set ..)) _ (List.length_set ..)) _ (List.length_set ..)) _ (List.length_set ..)) _ (List.length_set ..)) _ (List.length_set ..)) _ (List.length_set ..)) _ (List.length_set ..)) (c := 74) (n := 89) (by decide) rfl (by decide) (by decide)) (wa_74 _ _) ?_
                refine rb_iinc (lv' := [some (.ref 68), some (.int 66)]) rfl rfl ?_
                refine rb_goto ?_
                refine rn_step rfl ?_
                refine rb_iload rfl ?_
                refine rb_push ?_
                refine rb_cge (fun h => absurd h (by decide)) (fun _ => ?_)
                refine rb_aload rfl ?_
                refine rb_getf (v := .ref 74) rfl ?_
                refine rb_iload rfl ?_
                refine rb_aload rfl ?_
                refine rb_getf (v := .ref 69) rfl ?_
                refine rb_iload rfl ?_
                refine rb_iald rfl (by decide) (show _ = some (0) from rfl) ?_
                refine rb_iast rfl (by decide) (ok_lt (okL.sA (okL.sA (okL.sA (okL.sA (okL.sA (okL.sA (okL.sA (okL.sA (okL.sA (okL.sA (okL.sA (okL.sA (okL.sA (okL.sA (okL.sA (okL.sA (okL.sA (okL.sA (okL.sA (okL.sA (okL.sA (okL.sA (okL.sA (okL.sA (okL.sA (okL.sA (okL.sA (okL.sA (okL.sA (okL.sA (okL.sA (okL.sA (okL.sA (okL.sA (okL.sA (okL.sA (okL.sA (okL.sA (okL.sA (okL.sA (okL.sA (okL.sA (okL.sA (okL.sA (okL.sA (okL.sA (okL.sA (okL.sA (okL.sA (okL.sA (okL.sA (okL.sA (okL.sA (okL.sA (okL.sA (okL.sA (okL.sA (okL.sA (okL.sA (okL.sA (okL.sA (okL.sA (okL.sA (okL.sA (okL.sA (okL.sA s1_ok _ (List.length_set ..)) _ (List.length_set ..)) _ (List.length_set ..)) _ (List.length_set ..)) _ (List.length_set ..)) _ (List.length_set ..)) _ (List.length_set ..)) _ (List.length_set ..)) _ (List.length_set ..)) _ (List.length_set ..)) _ (List.length_set ..)) _ (List.length_set ..)) _ (List.length_set ..)) _ (List.length_set ..)) _ (List.length_set ..)) _ (List.length_set ..)) _ (List.length_set ..)) _ (List.length_set ..)) _ (List.length_set ..)) _ (List.length_set ..)) _ (List.length_set ..)) _ (List.length_set ..)) _ (List.length_set ..)) _ (List.length_set ..)) _ (List.length_set ..)) _ (List.length_set ..)) _ (List.length_set ..)) _ (List.length_set ..)) _ (List.length_set ..)) _ (List.length_set ..)) _ (List.length_set ..)) _ (List.length_set ..)) _ (List.length_set ..)) _ (List.length_set ..)) _ (List.length_set ..)) _ (List.length_set ..)) _ (List.length_set ..)) _ (List.length_set ..)) _ (List.length_set ..)) _ (List.length_set ..)) _ (List.length_set ..)) _ (List.length_set ..)) _ (List.length_set ..)) _ (List.length_set ..)) _ (List.length_set ..)) _ (List.length_set ..)) _ (List.length_set ..)) _ (List.length_set ..)) _ (List.length_set ..)) _ (List.length_set ..)) _ (List.length_set ..)) _ (List.length_set ..)) _ (List.length_set ..)) _ (List.length_set ..)) _ (List.length_set ..)) _ (List.length_set ..)) _ (List.length_set ..)) _ (List.length_set ..)) _ (List.length_set ..)) _ (List.length_set ..)) _ (List.length_set ..)) _ (List.length_set ..)) _ (List.length_set ..)) _ (List.length_set ..)) _ (List.length_set ..)) _ (List.length_set ..)) (c := 74) (n := 89) (by decide) rfl (by decide) (by decide)) (wa_74 _ _) ?_
                refine rb_iinc (lv' := [some (.ref 68), some (.int 67)]) rfl rfl ?_
                refine rb_goto ?_
                refine rn_step rfl ?_
                refine rb_iload rfl ?_
                refine rb_push ?_
                refine rb_cge (fun h => absurd h (by decide)) (fun _ => ?_)
                refine rb_aload rfl ?_
                refine rb_getf (v := .ref 74) rfl ?_
                refine rb_iload rfl ?_
                refine rb_aload rfl ?_
                refine rb_getf (v := .ref 69) rfl ?_
                refine rb_iload rfl ?_
                refine rb_iald rfl (by decide) (show _ = some (0) from rfl) ?_
                refine rb_iast rfl (by decide) (ok_lt (okL.sA (okL.sA (okL.sA (okL.sA (okL.sA (okL.sA (okL.sA (okL.sA (okL.sA (okL.sA (okL.sA (okL.sA (okL.sA (okL.sA (okL.sA (okL.sA (okL.sA (okL.sA (okL.sA (okL.sA (okL.sA (okL.sA (okL.sA (okL.sA (okL.sA (okL.sA (okL.sA (okL.sA (okL.sA (okL.sA (okL.sA (okL.sA (okL.sA (okL.sA (okL.sA (okL.sA (okL.sA (okL.sA (okL.sA (okL.sA (okL.sA (okL.sA (okL.sA (okL.sA (okL.sA (okL.sA (okL.sA (okL.sA (okL.sA (okL.sA (okL.sA (okL.sA (okL.sA (okL.sA (okL.sA (okL.sA (okL.sA (okL.sA (okL.sA (okL.sA (okL.sA (okL.sA (okL.sA (okL.sA (okL.sA (okL.sA (okL.sA s1_ok _ (List.length_set ..)) _ (List.length_set ..)) _ (List.length_set ..)) _ (List.length_set ..)) _ (List.length_set ..)) _ (List.length_set ..)) _ (List.length_set ..)) _ (List.length_set ..)) _ (List.length_set ..)) _ (List.length_set ..)) _ (List.length_set ..)) _ (List.length_set ..)) _ (List.length_set ..)) _ (List.length_set ..)) _ (List.length_set ..)) _ (List.length_set ..)) _ (List.length_set ..)) _ (List.length_set ..)) _ (List.length_set ..)) _ (List.length_set ..)) _ (List.length_set ..)) _ (List.length_set ..)) _ (List.length_set ..)) _ (List.length_set ..)) _ (List.length_set ..)) _ (List.length_set ..)) _ (List.length_set ..)) _ (List.length_set ..)) _ (List.length_set ..)) _ (List.length_set ..)) _ (List.length_set ..)) _ (List.length_set ..)) _ (List.length_set ..)) _ (List.length_set ..)) _ (List.length_set ..)) _ (List.length_set ..)) _ (List.length_set ..)) _ (List.length_set ..)) _ (List.length_set ..)) _ (List.length_set ..)) _ (List.length_set ..)) _ (List.length_set ..)) _ (List.length_set ..)) _ (List.length_set ..)) _ (List.length_set ..)) _ (List.length_set ..)) _ (List.length_set ..)) _ (List.length_set ..)) _ (List.length_set ..)) _ (List.length_set ..)) _ (List.length_set ..)) _ (List.length_set ..)) _ (List.length_set ..)) _ (List.length_set ..)) _ (List.length_set ..)) _ (List.length_set ..)) _ (List.length_set ..)) _ (List.length_set ..)) _ (List.length_set ..)) _ (List.length_set ..)) _ (List.length_set ..)) _ (List.length_set ..)) _ (List.length_set ..)) _ (List.length_set ..)) _ (List.length_set ..)) _ (List.length_set ..)) _ (List.length_set ..)) (c := 74) (n := 89) (by decide) rfl (by decide) (by decide)) (wa_74 _ _) ?_
                refine rb_iinc (lv' := [some (.ref 68), some (.int 68)]) rfl rfl ?_
                refine rb_goto ?_
                refine rn_step rfl ?_
                refine rb_iload rfl ?_
                refine rb_push ?_
                refine rb_cge (fun h => absurd h (by decide)) (fun _ => ?_)
                refine rb_aload rfl ?_
                refine rb_getf (v := .ref 74) rfl ?_
                refine rb_iload rfl ?_
                refine rb_aload rfl ?_
                refine rb_getf (v := .ref 69) rfl ?_
                refine rb_iload rfl ?_
                refine rb_iald rfl (by decide) (show _ = some (0) from rfl) ?_
                refine rb_iast rfl (by decide) (ok_lt (okL.sA (okL.sA (okL.sA (okL.sA (okL.sA (okL.sA (okL.sA (okL.sA (okL.sA (okL.sA (okL.sA (okL.sA (okL.sA (okL.sA (okL.sA (okL.sA (okL.sA (okL.sA (okL.sA (okL.sA (okL.sA (okL.sA (okL.sA (okL.sA (okL.sA (okL.sA (okL.sA (okL.sA (okL.sA (okL.sA (okL.sA (okL.sA (okL.sA (okL.sA (okL.sA (okL.sA (okL.sA (okL.sA (okL.sA (okL.sA (okL.sA (okL.sA (okL.sA (okL.sA (okL.sA (okL.sA (okL.sA (okL.sA (okL.sA (okL.sA (okL.sA (okL.sA (okL.sA (okL.sA (okL.sA (okL.sA (okL.sA (okL.sA (okL.sA (okL.sA (okL.sA (okL.sA (okL.sA (okL.sA (okL.sA (okL.sA (okL.sA (okL.sA s1_ok _ (List.length_set ..)) _ (List.length_set ..)) _ (List.length_set ..)) _ (List.length_set ..)) _ (List.length_set ..)) _ (List.length_set ..)) _ (List.length_set ..)) _ (List.length_set ..)) _ (List.length_set ..)) _ (List.length_set ..)) _ (List.length_set ..)) _ (List.length_set ..)) _ (List.length_set ..)) _ (List.length_set ..)) _ (List.length_set ..)) _ (List.length_set ..)) _ (List.length_set ..)) _ (List.length_set ..)) _ (List.length_set ..)) _ (List.length_set ..)) _ (List.length_set ..)) _ (List.length_set ..)) _ (List.length_set ..)) _ (List.length_set ..)) _ (List.length_set ..)) _ (List.length_set ..)) _ (List.length_set ..)) _ (List.length_set ..)) _ (List.length_set ..)) _ (List.length_set ..)) _ (List.length_set ..)) _ (List.length_set ..)) _ (List.length_set ..)) _ (List.length_set ..)) _ (List.length_set ..)) _ (List.length_set ..)) _ (List.length_set ..)) _ (List.length_set ..)) _ (List.length_set ..)) _ (List.length_set ..)) _ (List.length_set ..)) _ (List.length_set ..)) _ (List.length_set ..)) _ (List.length_set ..)) _ (List.length_set ..)) _ (List.length_set ..)) _ (List.length_set ..)) _ (List.length_set ..)) _ (List.length_set ..)) _ (List.length_set ..)) _ (List.length_set ..)) _ (List.length_set ..)) _ (List.length_set ..)) _ (List.length_set ..)) _ (List.length_set ..)) _ (List.length_set ..)) _ (List.length_set ..)) _ (List.length_set ..)) _ (List.length_set ..)) _ (List.length_set ..)) _ (List.length_set ..)) _ (List.length_set ..)) _ (List.length_set ..)) _ (List.length_set ..)) _ (List.length_set ..)) _ (List.length_set ..)) _ (List.length_set ..)) _ (List.length_set ..)) (c := 74) (n := 89) (by decide) rfl (by decide) (by decide)) (wa_74 _ _) ?_
                refine rb_iinc (lv' := [some (.ref 68), some (.int 69)]) rfl rfl ?_
                refine rb_goto ?_
                refine rn_step rfl ?_
                refine rb_iload rfl ?_
                refine rb_push ?_
                refine rb_cge (fun h => absurd h (by decide)) (fun _ => ?_)
                refine rb_aload rfl ?_
                refine rb_getf (v := .ref 74) rfl ?_
                refine rb_iload rfl ?_
                refine rb_aload rfl ?_
                refine rb_getf (v := .ref 69) rfl ?_
                refine rb_iload rfl ?_
                refine rb_iald rfl (by decide) (show _ = some (0) from rfl) ?_
                refine rb_iast rfl (by decide) (ok_lt (okL.sA (okL.sA (okL.sA (okL.sA (okL.sA (okL.sA (okL.sA (okL.sA (okL.sA (okL.sA (okL.sA (okL.sA (okL.sA (okL.sA (okL.sA (okL.sA (okL.sA (okL.sA (okL.sA (okL.sA (okL.sA (okL.sA (okL.sA (okL.sA (okL.sA (okL.sA (okL.sA (okL.sA (okL.sA (okL.sA (okL.sA (okL.sA (okL.sA (okL.sA (okL.sA (okL.sA (okL.sA (okL.sA (okL.sA (okL.sA (okL.sA (okL.sA (okL.sA (okL.sA (okL.sA (okL.sA (okL.sA (okL.sA (okL.sA (okL.sA (okL.sA (okL.sA (okL.sA (okL.sA (okL.sA (okL.sA (okL.sA (okL.sA (okL.sA (okL.sA (okL.sA (okL.sA (okL.sA (okL.sA (okL.sA (okL.sA (okL.sA (okL.sA (okL.sA s1_ok _ (List.length_set ..)) _ (List.length_set ..)) _ (List.length_set ..)) _ (List.length_set ..)) _ (List.length_set ..)) _ (List.length_set ..)) _ (List.length_set ..)) _ (List.length_set ..)) _ (List.length_set ..)) _ (List.length_set ..)) _ (List.length_set ..)) _ (List.length_set ..)) _ (List.length_set ..)) _ (List.length_set ..)) _ (List.length_set ..)) _ (List.length_set ..)) _ (List.length_set ..)) _ (List.length_set ..)) _ (List.length_set ..)) _ (List.length_set ..)) _ (List.length_set ..)) _ (List.length_set ..)) _ (List.length_set ..)) _ (List.length_set ..)) _ (List.length_set ..)) _ (List.length_set ..)) _ (List.length_set ..)) _ (List.length_set ..)) _ (List.length_set ..)) _ (List.length_set ..)) _ (List.length_set ..)) _ (List.length_set ..)) _ (List.length_set ..)) _ (List.length_set ..)) _ (List.length_set ..)) _ (List.length_set ..)) _ (List.length_set ..)) _ (List.length_set ..)) _ (List.length_set ..)) _ (List.length_set ..)) _ (List.length_set ..)) _ (List.length_set ..)) _ (List.length_set ..)) _ (List.length_set ..)) _ (List.length_set ..)) _ (List.length_set ..)) _ (List.length_set ..)) _ (List.length_set ..)) _ (List.length_set ..)) _ (List.length_set ..)) _ (List.length_set ..)) _ (List.length_set ..)) _ (List.length_set ..)) _ (List.length_set ..)) _ (List.length_set ..)) _ (List.length_set ..)) _ (List.length_set ..)) _ (List.length_set ..)) _ (List.length_set ..)) _ (List.length_set ..)) _ (List.length_set ..)) _ (List.length_set ..)) _ (List.length_set ..)) _ (List.length_set ..)) _ (List.length_set ..)) _ (List.length_set ..)) _ (List.length_set ..)) _ (List.length_set ..)) _ (List.length_set ..)) (c := 74) (n := 89) (by decide) rfl (by decide) (by decide)) (wa_74 _ _) ?_
                refine rb_iinc (lv' := [some (.ref 68), some (.int 70)]) rfl rfl ?_
                refine rb_goto ?_
                refine rn_step rfl ?_
                refine rb_iload rfl ?_
                refine rb_push ?_
                refine rb_cge (fun h => absurd h (by decide)) (fun _ => ?_)
                refine rb_aload rfl ?_
                refine rb_getf (v := .ref 74) rfl ?_
                refine rb_iload rfl ?_
                refine rb_aload rfl ?_
                refine rb_getf (v := .ref 69) rfl ?_
                refine rb_iload rfl ?_
                refine rb_iald rfl (by decide) (show _ = some (0) from rfl) ?_
                refine rb_iast rfl (by decide) (ok_lt (okL.sA (okL.sA (okL.sA (okL.sA (okL.sA (okL.sA (okL.sA (okL.sA (okL.sA (okL.sA (okL.sA (okL.sA (okL.sA (okL.sA (okL.sA (okL.sA (okL.sA (okL.sA (okL.sA (okL.sA (okL.sA (okL.sA (okL.sA (okL.sA (okL.sA (okL.sA (okL.sA (okL.sA (okL.sA (okL.sA (okL.sA (okL.sA (okL.sA (okL.sA (okL.sA (okL.sA (okL.sA (okL.sA (okL.sA (okL.sA (okL.sA (okL.sA (okL.sA (okL.sA (okL.sA (okL.sA (okL.sA (okL.sA (okL.sA (okL.sA (okL.sA (okL.sA (okL.sA (okL.sA (okL.sA (okL.sA (okL.sA (okL.sA (okL.sA (okL.sA (okL.sA (okL.sA (okL.sA (okL.sA (okL.sA (okL.sA (okL.sA (okL.sA (okL.sA (okL.sA s1_ok _ (List.length_set ..)) _ (List.length_set ..)) _ (List.length_set ..)) _ (List.length_set ..)) _ (List.length_set ..)) _ (List.length_set ..)) _ (List.length_set ..)) _ (List.length_set ..)) _ (List.length_set ..)) _ (List.length_set ..)) _ (List.length_set ..)) _ (List.length_set ..)) _ (List.length_set ..)) _ (List.length_set ..)) _ (List.length_set ..)) _ (List.length_set ..)) _ (List.length_set ..)) _ (List.length_set ..)) _ (List.length_set ..)) _ (List.length_set ..)) _ (List.length_set ..)) _ (List.length_set ..)) _ (List.length_set ..)) _ (List.length_set ..)) _ (List.length_set ..)) _ (List.length_set ..)) _ (List.length_set ..)) _ (List.length_set ..)) _ (List.length_set ..)) _ (List.length_set ..)) _ (List.length_set ..)) _ (List.length_set ..)) _ (List.length_set ..)) _ (List.length_set ..)) _ (List.length_set ..)) _ (List.length_set ..)) _ (List.length_set ..)) _ (List.length_set ..)) _ (List.length_set ..)) _ (List.length_set ..)) _ (List.length_set ..)) _ (List.length_set ..)) _ (List.length_set ..)) _ (List.length_set ..)) _ (List.length_set ..)) _ (List.length_set ..)) _ (List.length_set ..)) _ (List.length_set ..)) _ (List.length_set ..)) _ (List.length_set ..)) _ (List.length_set ..)) _ (List.length_set ..)) _ (List.length_set ..)) _ (List.length_set ..)) _ (List.length_set ..)) _ (List.length_set ..)) _ (List.length_set ..)) _ (List.length_set ..)) _ (List.length_set ..)) _ (List.length_set ..)) _ (List.length_set ..)) _ (List.length_set ..)) _ (List.length_set ..)) _ (List.length_set ..)) _ (List.length_set ..)) _ (List.length_set ..)) _ (List.length_set ..)) _ (List.length_set ..)) _ (List.length_set ..)) _ (List.length_set ..)) (c := 74) (n := 89) (by decide) rfl (by decide) (by decide)) (wa_74 _ _) ?_
                refine rb_iinc (lv' := [some (.ref 68), some (.int 71)]) rfl rfl ?_
                refine rb_goto ?_
                refine rn_step rfl ?_
                refine rb_iload rfl ?_
                refine rb_push ?_
                refine rb_cge (fun h => absurd h (by decide)) (fun _ => ?_)
                refine rb_aload rfl ?_
                refine rb_getf (v := .ref 74) rfl ?_
                refine rb_iload rfl ?_
                refine rb_aload rfl ?_
                refine rb_getf (v := .ref 69) rfl ?_
                refine rb_iload rfl ?_
                refine rb_iald rfl (by decide) (show _ = some (0) from rfl) ?_
                refine rb_iast rfl (by decide) (ok_lt (okL.sA (okL.sA (okL.sA (okL.sA (okL.sA (okL.sA (okL.sA (okL.sA (okL.sA (okL.sA (okL.sA (okL.sA (okL.sA (okL.sA (okL.sA (okL.sA (okL.sA (okL.sA (okL.sA (okL.sA (okL.sA (okL.sA (okL.sA (okL.sA (okL.sA (okL.sA (okL.sA (okL.sA (okL.sA (okL.sA (okL.sA (okL.sA (okL.sA (okL.sA (okL.sA (okL.sA (okL.sA (okL.sA (okL.sA (okL.sA (okL.sA (okL.sA (okL.sA (okL.sA (okL.sA (okL.sA (okL.sA (okL.sA (okL.sA (okL.sA (okL.sA (okL.sA (okL.sA (okL.sA (okL.sA (okL.sA (okL.sA (okL.sA (okL.sA (okL.sA (okL.sA (okL.sA (okL.sA (okL.sA (okL.sA (okL.sA (okL.sA (okL.sA (okL.sA (okL.sA (okL.sA s1_ok _ (List.length_set ..)) _ (List.length_set ..)) _ (List.length_set ..)) _ (List.length_set ..)) _ (List.length_set ..)) _ (List.length_set ..)) _ (List.length_set ..)) _ (List.length_set ..)) _ (List.length_set ..)) _ (List.length_set ..)) _ (List.length_set ..)) _ (List.length_set ..)) _ (List.length_set ..)) _ (List.length_set ..)) _ (List.length_set ..)) _ (List.length_set ..)) _ (List.length_set ..)) _ (List.length_set ..)) _ (List.length_set ..)) _ (List.length_set ..)) _ (List.length_set ..)) _ (List.length_set ..)) _ (List.length_set ..)) _ (List.length_set ..)) _ (List.length_set ..)) _ (List.length_set ..)) _ (List.length_set ..)) _ (List.length_set ..)) _ (List.length_set ..)) _ (List.length_set ..)) _ (List.length_set ..)) _ (List.length_set ..)) _ (List.length_set ..)) _ (List.length_set ..)) _ (List.length_set ..)) _ (List.length_set ..)) _ (List.length_set ..)) _ (List.length_set ..)) _ (List.length_set ..)) _ (List.length_set ..)) _ (List.length_set ..)) _ (List.length_set ..)) _ (List.length_set ..)) _ (List.length_set ..)) _ (List.length_set ..)) _ (List.length_set ..)) _ (List.length_set ..)) _ (List.length_set ..)) _ (List.length_set ..)) _ (List.length_set ..)) _ (List.length_set ..)) _ (List.length_set ..)) _ (List.length_set ..)) _ (List.length_set ..)) _ (List.length_set ..)) _ (List.length_set ..)) _ (List.length_set ..)) _ (List.length_set ..)) _ (List.length_set ..)) _ (List.length_set ..)) _ (List.length_set ..)) _ (List.length_set ..)) _ (List.length_set ..)) _ (List.length_set ..)) _ (List.length_set ..)) _ (List.length_set ..)) _ (List.length_set ..)) _ (List.length_set ..)) _ (List.length_set ..)) _ (List.length_set ..)) _ (List.length_set ..)) (c := 74) (n := 89) (by decide) rfl (by decide) (by decide)) (wa_74 _ _) ?_
                refine rb_iinc (lv' := [some (.ref 68), some (.int 72)]) rfl rfl ?_
                refine rb_goto ?_
                refine rn_step rfl ?_
                refine rb_iload rfl ?_
                refine rb_push ?_
                refine rb_cge (fun h => absurd h (by decide)) (fun _ => ?_)
                refine rb_aload rfl ?_
                refine rb_getf (v := .ref 74) rfl ?_
                refine rb_iload rfl ?_
                refine rb_aload rfl ?_
                refine rb_getf (v := .ref 69) rfl ?_
                refine rb_iload rfl ?_
                refine rb_iald rfl (by decide) (show _ = some (0) from rfl) ?_
                refine rb_iast rfl (by decide) (ok_lt (okL.sA (okL.sA (okL.sA (okL.sA (okL.sA (okL.sA (okL.sA (okL.sA (okL.sA (okL.sA (okL.sA (okL.sA (okL.sA (okL.sA (okL.sA (okL.sA (okL.sA (okL.sA (okL.sA (okL.sA (okL.sA (okL.sA (okL.sA (okL.sA (okL.sA (okL.sA (okL.sA (okL.sA (okL.sA (okL.sA (okL.sA (okL.sA (okL.sA (okL.sA (okL.sA (okL.sA (okL.sA (okL.sA (okL.sA (okL.sA (okL.sA (okL.sA (okL.sA (okL.sA (okL.sA (okL.sA (okL.sA (okL.sA (okL.sA (okL.sA (okL.sA (okL.sA (okL.sA (okL.sA (okL.sA (okL.sA (okL.sA (okL.sA (okL.sA (okL.sA (okL.sA (okL.sA (okL.sA (okL.sA (okL.sA (okL.sA (okL.sA (okL.sA (okL.sA (okL.sA (okL.sA (okL.sA s1_ok _ (List.length_set ..)) _ (List.length_set ..)) _ (List.length_set ..)) _ (List.length_set ..)) _ (List.length_set ..)) _ (List.length_set ..)) _ (List.length_set ..)) _ (List.length_set ..)) _ (List.length_set ..)) _ (List.length_set ..)) _ (List.length_set ..)) _ (List.length_set ..)) _ (List.length_set ..)) _ (List.length_set ..)) _ (List.length_set ..)) _ (List.length_set ..)) _ (List.length_set ..)) _ (List.length_set ..)) _ (List.length_set ..)) _ (List.length_set ..)) _ (List.length_set ..)) _ (List.length_set ..)) _ (List.length_set ..)) _ (List.length_set ..)) _ (List.length_set ..)) _ (List.length_set ..)) _ (List.length_set ..)) _ (List.length_set ..)) _ (List.length_set ..)) _ (List.length_set ..)) _ (List.length_set ..)) _ (List.length_set ..)) _ (List.length_set ..)) _ (List.length_set ..)) _ (List.length_set ..)) _ (List.length_set ..)) _ (List.length_set ..)) _ (List.length_set ..)) _ (List.length_set ..)) _ (List.length_set ..)) _ (List.length_set ..)) _ (List.length_set ..)) _ (List.length_set ..)) _ (List.length_set ..)) _ (List.length_set ..)) _ (List.length_set ..)) _ (List.length_set ..)) _ (List.length_set ..)) _ (List.length_set ..)) _ (List.length_set ..)) _ (List.length_set ..)) _ (List.length_set ..)) _ (List.length_set ..)) _ (List.length_set ..)) _ (List.length_set ..)) _ (List.length_set ..)) _ (List.length_set ..)) _ (List.length_set ..)) _ (List.length_set ..)) _ (List.length_set ..)) _ (List.length_set ..)) _ (List.length_set ..)) _ (List.length_set ..)) _ (List.length_set ..)) _ (List.length_set ..)) _ (List.length_set ..)) _ (List.length_set ..)) _ (List.length_set ..)) _ (List.length_set ..)) _ (List.length_set ..)) _ (List.length_set ..)) _ (List.length_set ..)) (c := 74) (n := 89) (by decide) rfl (by decide) (by decide)) (wa_74 _ _) ?_
                refine rb_iinc (lv' := [some (.ref 68), some (.int 73)]) rfl rfl ?_
                refine rb_goto ?_
                refine rn_step rfl ?_
                refine rb_iload rfl ?_
                refine rb_push ?_
                refine rb_cge (fun h => absurd h (by decide)) (fun _ => ?_)
                refine rb_aload rfl ?_
                refine rb_getf (v := .ref 74) rfl ?_
                refine rb_iload rfl ?_
                refine rb_aload rfl ?_
                refine rb_getf (v := .ref 69) rfl ?_
                refine rb_iload rfl ?_
                refine rb_iald rfl (by decide) (show _ = some (0) from rfl) ?_
                refine rb_iast rfl (by decide) (ok_lt (okL.sA (okL.sA (okL.sA (okL.sA (okL.sA (okL.sA (okL.sA (okL.sA (okL.sA (okL.sA (okL.sA (okL.sA (okL.sA (okL.sA (okL.sA (okL.sA (okL.sA (okL.sA (okL.sA (okL.sA (okL.sA (okL.sA (okL.sA (okL.sA (okL.sA (okL.sA (okL.sA (okL.sA (okL.sA (okL.sA (okL.sA (okL.sA (okL.sA (okL.sA (okL.sA (okL.sA (okL.sA (okL.sA (okL.sA (okL.sA (okL.sA (okL.sA (okL.sA (okL.sA (okL.sA (okL.sA (okL.sA (okL.sA (okL.sA (okL.sA (okL.sA (okL.sA (okL.sA (okL.sA (okL.sA (okL.sA (okL.sA (okL.sA (okL.sA (okL.sA (okL.sA (okL.sA (okL.sA (okL.sA (okL.sA (okL.sA (okL.sA (okL.sA (okL.sA (okL.sA (okL.sA (okL.sA (okL.sA s1_ok _ (List.length_set ..)) _ (List.length_set ..)) _ (List.length_set ..)) _ (List.length_set ..)) _ (List.length_set ..)) _ (List.length_set ..)) _ (List.length_set ..)) _ (List.length_set ..)) _ (List.length_set ..)) _ (List.length_set ..)) _ (List.length_set ..)) _ (List.length_set ..)) _ (List.length_set ..)) _ (List.length_set ..)) _ (List.length_set ..)) _ (List.length_set ..)) _ (List.length_set ..)) _ (List.length_set ..)) _ (List.length_set ..)) _ (List.length_set ..)) _ (List.length_set ..)) _ (List.length_set ..)) _ (List.length_set ..)) _ (List.length_set ..)) _ (List.length_set ..)) _ (List.length_set ..)) _ (List.length_set ..)) _ (List.length_set ..)) _ (List.length_set ..)) _ (List.length_set ..)) _ (List.length_set ..)) _ (List.length_set ..)) _ (List.length_set ..)) _ (List.length_set ..)) _ (List.length_set ..)) _ (List.length_set ..)) _ (List.length_set ..)) _ (List.length_set ..)) _ (List.length_set ..)) _ (List.length_set ..)) _ (List.length_set ..)) _ (List.length_set ..)) _ (List.length_set ..)) _ (List.length_set ..)) _ (List.length_set ..)) _ (List.length_set ..)) _ (List.length_set ..)) _ (List.length_set ..)) _ (List.length_set ..)) _ (List.length_set ..)) _ (List.length_set ..)) _ (List.length_set ..)) _ (List.length_set ..)) _ (List.length_set ..)) _ (List.length_set ..)) _ (List.length_set ..)) _ (List.length_set ..)) _ (List.length_set ..)) _ (List.length_set ..)) _ (List.length_set ..)) _ (List.length_set ..)) _ (List.length_set ..)) _ (List.length_set ..)) _ (List.length_set ..)) _ (List.length_set ..)) _ (List.length_set ..)) _ (List.length_set ..)) _ (List.length_set ..)) _ (List.length_set ..)) _ (List.length_set ..)) _ (List.length_set ..)) _ (List.length_set ..)) _ (List.length_set ..)) (c := 74) (n := 89) (by decide) rfl (by decide) (by decide)) (wa_74 _ _) ?_
                refine rb_iinc (lv' := [some (.ref 68), some (.int 74)]) rfl rfl ?_
                refine rb_goto ?_
                refine rn_step rfl ?_
                refine rb_iload rfl ?_
                refine rb_push ?_
                refine rb_cge (fun h => absurd h (by decide)) (fun _ => ?_)
                refine rb_aload rfl ?_
                refine rb_getf (v := .ref 74) rfl ?_
                refine rb_iload rfl ?_
                refine rb_aload rfl ?_
                refine rb_getf (v := .ref 69) rfl ?_
                refine rb_iload rfl ?_
                refine rb_iald rfl (by decide) (show _ = some (0) from rfl) ?_
                refine rb_iast rfl (by decide) (ok_lt (okL.sA (okL.sA (okL.sA (okL.sA (okL.sA (okL.sA (okL.sA (okL.sA (okL.sA (okL.sA (okL.sA (okL.sA (okL.sA (okL.sA (okL.sA (okL.sA (okL.sA (okL.sA (okL.sA (okL.sA (okL.sA (okL.sA (okL.sA (okL.sA (okL.sA (okL.sA (okL.sA (okL.sA (okL.sA (okL.sA (okL.sA (okL.sA (okL.sA (okL.sA (okL.sA (okL.sA (okL.sA (okL.sA (okL.sA (okL.sA (okL.sA (okL.sA (okL.sA (okL.sA (okL.sA (okL.sA (okL.sA (okL.sA (okL.sA (okL.sA (okL.sA (okL.sA (okL.sA (okL.sA (okL.sA (okL.sA (okL.sA (okL.sA (okL.sA (okL.sA (okL.sA (okL.sA (okL.sA (okL.sA (okL.sA (okL.sA (okL.sA (okL.sA (okL.sA (okL.sA (okL.sA (okL.sA (okL.sA (okL.sA s1_ok _ (List.length_set ..)) _ (List.length_set ..)) _ (List.length_set ..)) _ (List.length_set ..)) _ (List.length_set ..)) _ (List.length_set ..)) _ (List.length_set ..)) _ (List.length_set ..)) _ (List.length_set ..)) _ (List.length_set ..)) _ (List.length_set ..)) _ (List.length_set ..)) _ (List.length_set ..)) _ (List.length_set ..)) _ (List.length_set ..)) _ (List.length_set ..)) _ (List.length_set ..)) _ (List.length_set ..)) _ (List.length_set ..)) _ (List.length_set ..)) _ (List.length_set ..)) _ (List.length_set ..)) _ (List.length_set ..)) _ (List.length_set ..)) _ (List.length_set ..)) _ (List.length_set ..)) _ (List.length_set ..)) _ (List.length_set ..)) _ (List.length_set ..)) _ (List.length_set ..)) _ (List.length_set ..)) _ (List.length_set ..)) _ (List.length_set ..)) _ (List.length_set ..)) _ (List.length_set ..)) _ (List.length_set ..)) _ (List.length_set ..)) _ (List.length_set ..)) _ (List.length_set ..)) _ (List.length_set ..)) _ (List.length_set ..)) _ (List.length_set ..)) _ (List.length_set ..)) _ (List.length_set ..)) _ (List.length_set ..)) _ (List.length_set ..)) _ (List.length_set ..)) _ (List.length_set ..)) _ (List.length_set ..)) _ (List.length_set ..)) _ (List.length_set ..)) _ (List.length_set ..)) _ (List.length_set ..)) _ (List.length_set ..)) _ (List.length_set ..)) _ (List.length_set ..)) _ (List.length_set ..)) _ (List.length_set ..)) _ (List.length_set ..)) _ (List.length_set ..)) _ (List.length_set ..)) _ (List.length_set ..)) _ (List.length_set ..)) _ (List.length_set ..)) _ (List.length_set ..)) _ (List.length_set ..)) _ (List.length_set ..)) _ (List.length_set ..)) _ (List.length_set ..)) _ (List.length_set ..)) _ (List.length_set ..)) _ (List.length_set ..)) _ (List.length_set ..)) _ (List.length_set ..)) (c := 74) (n := 89) (by decide) rfl (by decide) (by decide)) (wa_74 _ _) ?_
                refine rb_iinc (lv' := [some (.ref 68), some (.int 75)]) rfl rfl ?_
                refine rb_goto ?_
                refine rn_step rfl ?_
                refine rb_iload rfl ?_
                refine rb_push ?_
                refine rb_cge (fun h => absurd h (by decide)) (fun _ => ?_)
                refine rb_aload rfl ?_
                refine rb_getf (v := .ref 74) rfl ?_
                refine rb_iload rfl ?_
                refine rb_aload rfl ?_
                refine rb_getf (v := .ref 69) rfl ?_
                refine rb_iload rfl ?_
                refine rb_iald rfl (by decide) (show _ = some (0) from rfl) ?_
                refine rb_iast rfl (by decide) (ok_lt (okL.sA (okL.sA (okL.sA (okL.sA (okL.sA (okL.sA (okL.sA (okL.sA (okL.sA (okL.sA (okL.sA (okL.sA (okL.sA (okL.sA (okL.sA (okL.sA (okL.sA (okL.sA (okL.sA (okL.sA (okL.sA (okL.sA (okL.sA (okL.sA (okL.sA (okL.sA (okL.sA (okL.sA (okL.sA (okL.sA (okL.sA (okL.sA (okL.sA (okL.sA (okL.sA (okL.sA (okL.sA (okL.sA (okL.sA (okL.sA (okL.sA (okL.sA (okL.sA (okL.sA (okL.sA (okL.sA (okL.sA (okL.sA (okL.sA (okL.sA (okL.sA (okL.sA (okL.sA (okL.sA (okL.sA (okL.sA (okL.sA (okL.sA (okL.sA (okL.sA (okL.sA (okL.sA (okL.sA (okL.sA (okL.sA (okL.sA (okL.sA (okL.sA (okL.sA (okL.sA (okL.sA (okL.sA (okL.sA (okL.sA (okL.sA s1_ok _ (List.length_set ..)) _ (List.length_set ..)) _ (List.length_set ..)) _ (List.length_set ..)) _ (List.length_set ..)) _ (List.length_set ..)) _ (List.length_set ..)) _ (List.length_set ..)) _ (List.length_set ..)) _ (List.length_set ..)) _ (List.length_set ..)) _ (List.length_set ..)) _ (List.length_set ..)) _ (List.length_set ..)) _ (List.length_set ..)) _ (List.length_set ..)) _ (List.length_set ..)) _ (List.length_set ..)) _ (List.length_set ..)) _ (List.length_set ..)) _ (List.length_set ..)) _ (List.length_set ..)) _ (List.length_set ..)) _ (List.length_set ..)) _ (List.length_set ..)) _ (List.length_set ..)) _ (List.length_set ..)) _ (List.length_set ..)) _ (List.length_set ..)) _ (List.length_set ..)) _ (List.length_set ..)) _ (List.length_set ..)) _ (List.length_set ..)) _ (List.length_set ..)) _ (List.length_set ..)) _ (List.length_set ..)) _ (List.length_set ..)) _ (List.length_set ..)) _ (List.length_set ..)) _ (List.length_set ..)) _ (List.length_set ..)) _ (List.length_set ..)) _ (List.length_set ..)) _ (List.length_set ..)) _ (List.length_set ..)) _ (List.length_set ..)) _ (List.length_set ..)) _ (List.length_set ..)) _ (List.length_set ..)) _ (List.length_set ..)) _ (List.length_set ..)) _ (List.length_set ..)) _ (List.length_set ..)) _ (List.length_set ..)) _ (List.length_set ..)) _ (List.length_set ..)) _ (List.length_set ..)) _ (List.length_set ..)) _ (List.length_set ..)) _ (List.length_set ..)) _ (List.length_set ..)) _ (List.length_set ..)) _ (List.length_set ..)) _ (List.length_set ..)) _ (List.length_set ..)) _ (List.length_set ..)) _ (List.length_set ..)) _ (List.length_set ..)) _ (List.length_set ..)) _ (List.length_set ..)) _ (List.length_set ..)) _ (List.length_set ..)) _ (List.length_set ..)) _ (List.length_set ..)) _ (List.length_set ..)) (c := 74) (n := 89) (by decide) rfl (by decide) (by decide)) (wa_74 _ _) ?_
                refine rb_iinc (lv' := [some (.ref 68), some (.int 76)]) rfl rfl ?_
                refine rb_goto ?_
                refine rn_step rfl ?_
                refine rb_iload rfl ?_
                refine rb_push ?_
                refine rb_cge (fun h => absurd h (by decide)) (fun _ => ?_)
                refine rb_aload rfl ?_
                refine rb_getf (v := .ref 74) rfl ?_
                refine rb_iload rfl ?_
                refine rb_aload rfl ?_
                refine rb_getf (v := .ref 69) rfl ?_
                refine rb_iload rfl ?_
                refine rb_iald rfl (by decide) (show _ = some (0) from rfl) ?_
                refine rb_iast rfl (by decide) (ok_lt (okL.sA (okL.sA (okL.sA (okL.sA (okL.sA (okL.sA (okL.sA (okL.sA (okL.sA (okL.sA (okL.sA (okL.sA (okL.sA (okL.sA (okL.sA (okL.sA (okL.sA (okL.sA (okL.sA (okL.sA (okL.sA (okL.sA (okL.sA (okL.sA (okL.sA (okL.sA (okL.sA (okL.sA (okL.sA (okL.sA (okL.sA (okL.sA (okL.sA (okL.sA (okL.sA (okL.sA (okL.sA (okL.sA (okL.sA (okL.sA (okL.sA (okL.sA (okL.sA (okL.sA (okL.sA (okL.sA (okL.sA (okL.sA (okL.sA (okL.sA (okL.sA (okL.sA (okL.sA (okL.sA (okL.sA (okL.sA (okL.sA (okL.sA (okL.sA (okL.sA (okL.sA (okL.sA (okL.sA (okL.sA (okL.sA (okL.sA (okL.sA (okL.sA (okL.sA (okL.sA (okL.sA (okL.sA (okL.sA (okL.sA (okL.sA (okL.sA s1_ok _ (List.length_set ..)) _ (List.length_set ..)) _ (List.length_set ..)) _ (List.length_set ..)) _ (List.length_set ..)) _ (List.length_set ..)) _ (List.length_set ..)) _ (List.length_set ..)) _ (List.length_set ..)) _ (List.length_set ..)) _ (List.length_set ..)) _ (List.length_set ..)) _ (List.length_set ..)) _ (List.length_set ..)) _ (List.length_set ..)) _ (List.length_set ..)) _ (List.length_set ..)) _ (List.length_set ..)) _ (List.length_set ..)) _ (List.length_set ..)) _ (List.length_set ..)) _ (List.length_set ..)) _ (List.length_set ..)) _ (List.length_set ..)) _ (List.length_set ..)) _ (List.length_set ..)) _ (List.length_set ..)) _ (List.length_set ..)) _ (List.length_set ..)) _ (List.length_set ..)) _ (List.length_set ..)) _ (List.length_set ..)) _ (List.length_set ..)) _ (List.length_set ..)) _ (List.length_set ..)) _ (List.length_set ..)) _ (List.length_set ..)) _ (List.length_set ..)) _ (List.length_set ..)) _ (List.length_set ..)) _ (List.length_set ..)) _ (List.length_set ..)) _ (List.length_set ..)) _ (List.length_set ..)) _ (List.length_set ..)) _ (List.length_set ..)) _ (List.length_set ..)) _ (List.length_set ..)) _ (List.length_set ..)) _ (List.length_set ..)) _ (List.length_set ..)) _ (List.length_set ..)) _ (List.length_set ..)) _ (List.length_set ..)) _ (List.length_set ..)) _ (List.length_set ..)) _ (List.length_set ..)) _ (List.length_set ..)) _ (List.length_set ..)) _ (List.length_set ..)) _ (List.length_set ..)) _ (List.length_set ..)) _ (List.length_set ..)) _ (List.length_set ..)) _ (List.length_set ..)) _ (List.length_set ..)) _ (List.length_set ..)) _ (List.length_set ..)) _ (List.length_set ..)) _ (List.length_set ..)) _ (List.length_set ..)) _ (List.length_set ..)) _ (List.length_set ..)) _ (List.length_set ..)) _ (List.length_set ..)) _ (List.length_set ..)) (c := 74) (n := 89) (by decide) rfl (by decide) (by decide)) (wa_74 _ _) ?_
                refine rb_iinc (lv' := [some (.ref 68), some (.int 77)]) rfl rfl ?_
                refine rb_goto ?_
                refine rn_step rfl ?_
                refine rb_iload rfl ?_
                refine rb_push ?_
                refine rb_cge (fun h => absurd h (by decide)) (fun _ => ?_)
                refine rb_aload rfl ?_
                refine rb_getf (v := .ref 74) rfl ?_
                refine rb_iload rfl ?_
                refine rb_aload rfl ?_
                refine rb_getf (v := .ref 69) rfl ?_
                refine rb_iload rfl ?_
                refine rb_iald rfl (by decide) (show _ = some (0) from rfl) ?_
                refine rb_iast rfl (by decide) (ok_lt (okL.sA (okL.sA (okL.sA (okL.sA (okL.sA (okL.sA (okL.sA (okL.sA (okL.sA (okL.sA (okL.sA (okL.sA (okL.sA (okL.sA (okL.sA (okL.sA (okL.sA (okL.sA (okL.sA (okL.sA (okL.sA (okL.sA (okL.sA (okL.sA (okL.sA (okL.sA (okL.sA (okL.sA (okL.sA (okL.sA (okL.sA (okL.sA (okL.sA (okL.sA (okL.sA (okL.sA (okL.sA (okL.sA (okL.sA (okL.sA (okL.sA (okL.sA (okL.sA (okL.sA (okL.sA (okL.sA (okL.sA (okL.sA (okL.sA (okL.sA (okL.sA (okL.sA (okL.sA (okL.sA (okL.sA (okL.sA (okL.sA (okL.sA (okL.sA (okL.sA (okL.sA (okL.sA (okL.sA (okL.sA (okL.sA (okL.sA (okL.sA (okL.sA (okL.sA (okL.sA (okL.sA (okL.sA (okL.sA (okL.sA (okL.sA (okL.sA (okL.sA s1_ok _ (List.length_set ..)) _ (List.length_set ..)) _ (List.length_set ..)) _ (List.length_set ..)) _ (List.length_set ..)) _ (List.length_set ..)) _ (List.length_set ..)) _ (List.length_set ..)) _ (List.length_set ..)) _ (List.length_set ..)) _ (List.length_set ..)) _ (List.length_set ..)) _ (List.length_set ..)) _ (List.length_set ..)) _ (List.length_set ..)) _ (List.length_set ..)) _ (List.length_set ..)) _ (List.length_set ..)) _ (List.length_set ..)) _ (List.length_set ..)) _ (List.length_set ..)) _ (List.length_set ..)) _ (List.length_set ..)) _ (List.length_set ..)) _ (List.length_set ..)) _ (List.length_set ..)) _ (List.length_set ..)) _ (List.length_set ..)) _ (List.length_set ..)) _ (List.length_set ..)) _ (List.length_set ..)) _ (List.length_set ..)) _ (List.length_set ..)) _ (List.length_set ..)) _ (List.length_set ..)) _ (List.length_set ..)) _ (List.length_set ..)) _ (List.length_set ..)) _ (List.length_set ..)) _ (List.length_set ..)) _ (List.length_set ..)) _ (List.length_set ..)) _ (List.length_set ..)) _ (List.length_set ..)) _ (List.length_set ..)) _ (List.length_set ..)) _ (List.length_set ..)) _ (List.length_set ..)) _ (List.length_set ..)) _ (List.length_set ..)) _ (List.length_set ..)) _ (List.length_set ..)) _ (List.length_set ..)) _ (List.length_set ..)) _ (List.length_set ..)) _ (List.length_set ..)) _ (List.length_set ..)) _ (List.length_set ..)) _ (List.length_set ..)) _ (List.length_set ..)) _ (List.length_set ..)) _ (List.length_set ..)) _ (List.length_set ..)) _ (List.length_set ..)) _ (List.length_set ..)) _ (List.length_set ..)) _ (List.length_set ..)) _ (List.length_set ..)) _ (List.length_set ..)) _ (List.length_set ..)) _ (List.length_set ..)) _ (List.length_set ..)) _ (List.length_set ..)) _ (List.length_set ..)) _ (List.length_set ..)) _ (List.length_set ..)) _ (List.length_set ..)) (c := 74) (n := 89) (by decide) rfl (by decide) (by decide)) (wa_74 _ _) ?_
                refine rb_iinc (lv' := [some (.ref 68), some (.int 78)]) rfl rfl ?_
                refine rb_goto ?_
                refine rn_step rfl ?_
                refine rb_iload rfl ?_
                refine rb_push ?_
                refine rb_cge (fun h => absurd h (by decide)) (fun _ => ?_)
                refine rb_aload rfl ?_
                refine rb_getf (v := .ref 74) rfl ?_
                refine rb_iload rfl ?_
                refine rb_aload rfl ?_
                refine rb_getf (v := .ref 69) rfl ?_
                refine rb_iload rfl ?_
                refine rb_iald rfl (by decide) (show _ = some (0) from rfl) ?_
                refine rb_iast rfl (by decide) (ok_lt (okL.sA (okL.sA (okL.sA (okL.sA (okL.sA (okL.sA (okL.sA (okL.sA (okL.sA (okL.sA (okL.sA (okL.sA (okL.sA (okL.sA (okL.sA (okL.sA (okL.sA (okL.sA (okL.sA (okL.sA (okL.sA (okL.sA (okL.sA (okL.sA (okL.sA (okL.sA (okL.sA (okL.sA (okL.sA (okL.sA (okL.sA (okL.sA (okL.sA (okL.sA (okL.sA (okL.sA (okL.sA (okL.sA (okL.sA (okL.sA (okL.sA (okL.sA (okL.sA (okL.sA (okL.sA (okL.sA (okL.sA (okL.sA (okL.sA (okL.sA (okL.sA (okL.sA (okL.sA (okL.sA (okL.sA (okL.sA (okL.sA (okL.sA (okL.sA (okL.sA (okL.sA (okL.sA (okL.sA (okL.sA (okL.sA (okL.sA (okL.sA (okL.sA (okL.sA (okL.sA (okL.sA (okL.sA (okL.sA (okL.sA (okL.sA (okL.sA (okL.sA (okL.sA s1_ok _ (List.length_set ..)) _ (List.length_set ..)) _ (List.length_set ..)) _ (List.length_set ..)) _ (List.length_set ..)) _ (List.length_set ..)) _ (List.length_set ..)) _ (List.length_set ..)) _ (List.length_set ..)) _ (List.length_set ..)) _ (List.length_set ..)) _ (List.length_set ..)) _ (List.length_set ..)) _ (List.length_set ..)) _ (List.length_set ..)) _ (List.length_set ..)) _ (List.length_set ..)) _ (List.length_set ..)) _ (List.length_set ..)) _ (List.length_set ..)) _ (List.length_set ..)) _ (List.length_set ..)) _ (List.length_set ..)) _ (List.length_set ..)) _ (List.length_set ..)) _ (List.length_set ..)) _ (List.length_set ..)) _ (List.length_set ..)) _ (List.length_set ..)) _ (List.length_set ..)) _ (List.length_set ..)) _ (List.length_set ..)) _ (List.length_set ..)) _ (List.length_set ..)) _ (List.length_set ..)) _ (List.length_set ..)) _ (List.length_set ..)) _ (List.length_set ..)) _ (List.length_set ..)) _ (List.length_set ..)) _ (List.length_set ..)) _ (List.length_set ..)) _ (List.length_set ..)) _ (List.length_set ..)) _ (List.length_set ..)) _ (List.length_set ..)) _ (List.length_set ..)) _ (List.length_set ..)) _ (List.length_set ..)) _ (List.length_set ..)) _ (List.length_set ..)) _ (List.length_set ..)) _ (List.length_set ..)) _ (List.length_set ..)) _ (List.length_set ..)) _ (List.length_set ..)) _ (List.length_set ..)) _ (List.length_set ..)) _ (List.length_set ..)) _ (List.length_set ..)) _ (List.length_set ..)) _ (List.length_set ..)) _ (List.length_set ..)) _ (List.length_set ..)) _ (List.length_set ..)) _ (List.length_set ..)) _ (List.length_set ..)) _ (List.length_set ..)) _ (List.length_set ..)) _ (List.length_set ..)) _ (List.length_set ..)) _ (List.length_set ..)) _ (List.length_set ..)) _ (List.length_set ..)) _ (List.length_set ..)) _ (List.length_set ..)) _ (List.length_set ..)) _ (List.length_set ..)) (c := 74) (n := 89) (by decide) rfl (by decide) (by decide)) (wa_74 _ _) ?_
                refine rb_iinc (lv' := [some (.ref 68), some (.int 79)]) rfl rfl ?_
                refine rb_goto ?_
                refine rn_step rfl ?_
                refine rb_iload rfl ?_
                refine rb_push ?_
                refine rb_cge (fun h => absurd h (by decide)) (fun _ => ?_)
                refine rb_aload rfl ?_
                refine rb_getf (v := .ref 74) rfl ?_
                refine rb_iload rfl ?_
                refine rb_aload rfl ?_
                refine rb_getf (v := .ref 69) rfl ?_
                refine rb_iload rfl ?_
                refine rb_iald rfl (by decide) (show _ = some (0) from rfl) ?_
                refine rb_iast rfl (by decide) (ok_lt (okL.sA (okL.sA (okL.sA (okL.sA (okL.sA (okL.sA (okL.sA (okL.sA (okL.sA (okL.sA (okL.sA (okL.sA (okL.sA (okL.sA (okL.sA (okL.sA (okL.sA (okL.sA (okL.sA (okL.sA (okL.sA (okL.sA (okL.sA (okL.sA (okL.sA (okL.sA (okL.sA (okL.sA (okL.sA (okL.sA (okL.sA (okL.sA (okL.sA (okL.sA (okL.sA (okL.sA (okL.sA (okL.sA (okL.sA (okL.sA (okL.sA (okL.sA (okL.sA (okL.sA (okL.sA (okL.sA (okL.sA (okL.sA (okL.sA (okL.sA (okL.sA (okL.sA (okL.sA (okL.sA (okL.sA (okL.sA (okL.sA (okL.sA (okL.sA (okL.sA (okL.sA (okL.sA (okL.sA (okL.sA (okL.sA (okL.sA (okL.sA (okL.sA (okL.sA (okL.sA (okL.sA (okL.sA (okL.sA (okL.sA (okL.sA (okL.sA (okL.sA (okL.sA (okL.sA s1_ok _ (List.length_set ..)) _ (List.length_set ..)) _ (List.length_set ..)) _ (List.length_set ..)) _ (List.length_set ..)) _ (List.length_set ..)) _ (List.length_set ..)) _ (List.length_set ..)) _ (List.length_set ..)) _ (List.length_set ..)) _ (List.length_set ..)) _ (List.length_set ..)) _ (List.length_set ..)) _ (List.length_set ..)) _ (List.length_set ..)) _ (List.length_set ..)) _ (List.length_set ..)) _ (List.length_set ..)) _ (List.length_set ..)) _ (List.length_set ..)) _ (List.length_set ..)) _ (List.length_set ..)) _ (List.length_set ..)) _ (List.length_set ..)) _ (List.length_set ..)) _ (List.length_set ..)) _ (List.length_set ..)) _ (List.length_set ..)) _ (List.length_set ..)) _ (List.length_set ..)) _ (List.length_set ..)) _ (List.length_set ..)) _ (List.length_set ..)) _ (List.length_set ..)) _ (List.length_set ..)) _ (List.length_set ..)) _ (List.length_set ..)) _ (List.length_set ..)) _ (List.length_set ..)) _ (List.length_set ..)) _ (List.length_set ..)) _ (List.length_set ..)) _ (List.length_set ..)) _ (List.length_set ..)) _ (List.length_set ..)) _ (List.length_set ..)) _ (List.length_set ..)) _ (List.length_set ..)) _ (List.length_set ..)) _ (List.length_set ..)) _ (List.length_set ..)) _ (List.length_set ..)) _ (List.length_set ..)) _ (List.length_set ..)) _ (List.length_set ..)) _ (List.length_set ..)) _ (List.length_set ..)) _ (List.length_set ..)) _ (List.length_set ..)) _ (List.length_set ..)) _ (List.length_set ..)) _ (List.length_set ..)) _ (List.length_set ..)) _ (List.length_set ..)) _ (List.length_set ..)) _ (List.length_set ..)) _ (List.length_set ..)) _ (List.length_set ..)) _ (List.length_set ..)) _ (List.length_set ..)) _ (List.length_set ..)) _ (List.length_set ..)) _ (List.length_set ..)) _ (List.length_set ..)) _ (List.length_set ..)) _ (List.length_set ..)) _ (List.length_set ..)) _ (List.length_set ..)) _ (List.length_set ..)) (c := 74) (n := 89) (by decide) rfl (by decide) (by decide)) (wa_74 _ _) ?_
                refine rb_iinc (lv' := [some (.ref 68), some (.int 80)]) rfl rfl ?_
                refine rb_goto ?_
                refine rn_step rfl ?_
                refine rb_iload rfl ?_
                refine rb_push ?_
                refine rb_cge (fun h => absurd h (by decide)) (fun _ => ?_)
                refine rb_aload rfl ?_
                refine rb_getf (v := .ref 74) rfl ?_
                refine rb_iload rfl ?_
                refine rb_aload rfl ?_
                refine rb_getf (v := .ref 69) rfl ?_
                refine rb_iload rfl ?_
                refine rb_iald rfl (by decide) (show _ = some (0) from rfl) ?_
                refine rb_iast rfl (by decide) (ok_lt (okL.sA (okL.sA (okL.sA (okL.sA (okL.sA (okL.sA (okL.sA (okL.sA (okL.sA (okL.sA (okL.sA (okL.sA (okL.sA (okL.sA (okL.sA (okL.sA (okL.sA (okL.sA (okL.sA (okL.sA (okL.sA (okL.sA (okL.sA (okL.sA (okL.sA (okL.sA (okL.sA (okL.sA (okL.sA (okL.sA (okL.sA (okL.sA (okL.sA (okL.sA (okL.sA (okL.sA (okL.sA (okL.sA (okL.sA (okL.sA (okL.sA (okL.sA (okL.sA (okL.sA (okL.sA (okL.sA (okL.sA (okL.sA (okL.sA (okL.sA (okL.sA (okL.sA (okL.sA (okL.sA (okL.sA (okL.sA (okL.sA (okL.sA (okL.sA (okL.sA (okL.sA (okL.sA (okL.sA (okL.sA (okL.sA (okL.sA (okL.sA (okL.sA (okL.sA (okL.sA (okL.sA (okL.sA (okL.sA (okL.sA (okL.sA (okL.sA (okL.sA (okL.sA (okL.sA (okL.sA s1_ok _ (List.length_set ..)) _ (List.length_set ..)) _ (List.length_set ..)) _ (List.length_set ..)) _ (List.length_set ..)) _ (List.length_set ..)) _ (List.length_set ..)) _ (List.length_set ..)) _ (List.length_set ..)) _ (List.length_set ..)) _ (List.length_set ..)) _ (List.length_set ..)) _ (List.length_set ..)) _ (List.length_set ..)) _ (List.length_set ..)) _ (List.length_set ..)) _ (List.length_set ..)) _ (List.length_set ..)) _ (List.length_set ..)) _ (List.length_set ..)) _ (List.length_set ..)) _ (List.length_set ..)) _ (List.length_set ..)) _ (List.length_set ..)) _ (List.length_set ..)) _ (List.length_set ..)) _ (List.length_set ..)) _ (List.length_set ..)) _ (List.length_set ..)) _ (List.length_set ..)) _ (List.length_set ..)) _ (List.length_set ..)) _ (List.length_set ..)) _ (List.length_set ..)) _ (List.length_set ..)) _ (List.length_set ..)) _ (List.length_set ..)) _ (List.length_set ..)) _ (List.length_set ..)) _ (List.length_set ..)) _ (List.length_set ..)) _ (List.length_set ..)) _ (List.length_set ..)) _ (List.length_set ..)) _ (List.length_set ..)) _ (List.length_set ..)) _ (List.length_set ..)) _ (List.length_set ..)) _ (List.length_set ..)) _ (List.length_set ..)) _ (List.length_set ..)) _ (List.length_set ..)) _ (List.length_set ..)) _ (List.length_set ..)) _ (List.length_set ..)) _ (List.length_set ..)) _ (List.length_set ..)) _ (List.length_set ..)) _ (List.length_set ..)) _ (List.length_set ..)) _ (List.length_set ..)) _ (List.length_set ..)) _ (List.length_set ..)) _ (List.length_set ..)) _ (List.length_set ..)) _ (List.length_set ..)) _ (List.length_set ..)) _ (List.length_set ..)) _ (List.length_set ..)) _ (List.length_set ..)) _ (List.length_set ..)) _ (List.length_set ..)) _ (List.length_set ..)) _ (List.length_set ..)) _ (List.length_set ..)) _ (List.length_set ..)) _ (List.length_set ..)) _ (List.length_set ..)) _ (List.length_set ..)) _ (List.length_set ..)) (c := 74) (n := 89) (by decide) rfl (by decide) (by decide)) (wa_74 _ _) ?_
                refine rb_iinc (lv' := [some (.ref 68), some (.int 81)]) rfl rfl ?_
                refine rb_goto ?_
                refine rn_step rfl ?_
                refine rb_iload rfl ?_
                refine rb_push ?_
                refine rb_cge (fun h => absurd h (by decide)) (fun _ => ?_)
                refine rb_aload rfl ?_
                refine rb_getf (v := .ref 74) rfl ?_
                refine rb_iload rfl ?_
                refine rb_aload rfl ?_
                refine rb_getf (v := .ref 69) rfl ?_
                refine rb_iload rfl ?_
                refine rb_iald rfl (by decide) (show _ = some (0) from rfl) ?_
                refine rb_iast rfl (by decide) (ok_lt (okL.sA (okL.sA (okL.sA (okL.sA (okL.sA (okL.sA (okL.sA (okL.sA (okL.sA (okL.sA (okL.sA (okL.sA (okL.sA (okL.sA (okL.sA (okL.sA (okL.sA (okL.sA (okL.sA (okL.sA (okL.sA (okL.sA (okL.sA (okL.sA (okL.sA (okL.sA (okL.sA (okL.sA (okL.sA (okL.sA (okL.sA (okL.sA (okL.sA (okL.sA (okL.sA (okL.sA (okL.sA (okL.sA (okL.sA (okL.sA (okL.sA (okL.sA (okL.sA (okL.sA (okL.sA (okL.sA (okL.sA (okL.sA (okL.sA (okL.sA (okL.sA (okL.sA (okL.sA (okL.sA (okL.sA (okL.sA (okL.sA (okL.sA (okL.sA (okL.sA (okL.sA (okL.sA (okL.sA (okL.sA (okL.sA (okL.sA (okL.sA (okL.sA (okL.sA (okL.sA (okL.sA (okL.sA (okL.sA (okL.sA (okL.sA (okL.sA (okL.sA (okL.sA (okL.sA (okL.sA (okL.sA s1_ok _ (List.length_set ..)) _ (List.length_set ..)) _ (List.length_set ..)) _ (List.length_set ..)) _ (List.length_set ..)) _ (List.length_set ..)) _ (List.length_set ..)) _ (List.length_set ..)) _ (List.length_set ..)) _ (List.length_set ..)) _ (List.length_set ..)) _ (List.length_set ..)) _ (List.length_set ..)) _ (List.length_set ..)) _ (List.length_set ..)) _ (List.length_set ..)) _ (List.length_set ..)) _ (List.length_set ..)) _ (List.length_set ..)) _ (List.length_set ..)) _ (List.length_set ..)) _ (List.length_set ..)) _ (List.length_set ..)) _ (List.length_set ..)) _ (List.length_set ..)) _ (List.length_set ..)) _ (List.length_set ..)) _ (List.length_set ..)) _ (List.length_set ..)) _ (List.length_set ..)) _ (List.length_set ..)) _ (List.length_set ..)) _ (List.length_set ..)) _ (List.length_set ..)) _ (List.length_set ..)) _ (List.length_set ..)) _ (List.length_set ..)) _ (List.length_set ..)) _ (List.length_set ..)) _ (List.length_set ..)) _ (List.length_set ..)) _ (List.length_set ..)) _ (List.length_set ..)) _ (List.length_set ..)) _ (List.length_set ..)) _ (List.length_set ..)) _ (List.length_set ..)) _ (List.length_set ..)) _ (List.length_set ..)) _ (List.length_set ..)) _ (List.length_set ..)) _ (List.length_set ..)) _ (List.length_set ..)) _ (List.length_set ..)) _ (List.length_set ..)) _ (List.length_set ..)) _ (List.length_set ..)) _ (List.length_set ..)) _ (List.length_set ..)) _ (List.length_set ..)) _ (List.length_set ..)) _ (List.length_set ..)) _ (List.length_set ..)) _ (List.length_set ..)) _ (List.length_set ..)) _ (List.length_set ..)) _ (List.length_set ..)) _ (List.length_set ..)) _ (List.length_set ..)) _ (List.length_set ..)) _ (List.length_set ..)) _ (List.length_set ..)) _ (List.length_set ..)) _ (List.length_set ..)) _ (List.length_set ..)) _ (List.length_set ..)) _ (List.length_set ..)) _ (List.length_set ..)) _ (List.length_set ..)) _ (List.length_set ..)) _ (List.length_set ..)) (c := 74) (n := 89) (by decide) rfl (by decide) (by decide)) (wa_74 _ _) ?_
                refine rb_iinc (lv' := [some (.ref 68), some (.int 82)]) rfl rfl ?_
                refine rb_goto ?_
                refine rn_step rfl ?_
                refine rb_iload rfl ?_
                refine rb_push ?_
                refine rb_cge (fun h => absurd h (by decide)) (fun _ => ?_)
                refine rb_aload rfl ?_
                refine rb_getf (v := .ref 74) rfl ?_
                refine rb_iload rfl ?_
                refine rb_aload rfl ?_
                refine rb_getf (v := .ref 69) rfl ?_
                refine rb_iload rfl ?_
                refine rb_iald rfl (by decide) (show _ = some (0) from rfl) ?_
                refine rb_iast rfl (by decide) (ok_lt (okL.sA (okL.sA (okL.sA (okL.sA (okL.sA (okL.sA (okL.sA (okL.sA (okL.sA (okL.sA (okL.sA (okL.sA (okL.sA (okL.sA (okL.sA (okL.sA (okL.sA (okL.sA (okL.sA (okL.sA (okL.sA (okL.sA (okL.sA (okL.sA (okL.sA (okL.sA (okL.sA (okL.sA (okL.sA (okL.sA (okL.sA (okL.sA (okL.sA (okL.sA (okL.sA (okL.sA (okL.sA (okL.sA (okL.sA (okL.sA (okL.sA (okL.sA (okL.sA (okL.sA (okL.sA (okL.sA (okL.sA (okL.sA (okL.sA (okL.sA (okL.sA (okL.sA (okL.sA (okL.sA (okL.sA (okL.sA (okL.sA (okL.sA (okL.sA (okL.sA (okL.sA (okL.sA (okL.sA (okL.sA (okL.sA (okL.sA (okL.sA (okL.sA (okL.sA (okL.sA (okL.sA (okL.sA (okL.sA (okL.sA (okL.sA (okL.sA (okL.sA (okL.sA (okL.sA (okL.sA (okL.sA (okL.sA s1_ok _ (List.length_set ..)) _ (List.length_set ..)) _ (List.length_set ..)) _ (List.length_set ..)) _ (List.length_set ..)) _ (List.length_set ..)) _ (List.length_set ..)) _ (List.length_set ..)) _ (List.length_set ..)) _ (List.length_set ..)) _ (List.length_set ..)) _ (List.length_set ..)) _ (List.length_set ..)) _ (List.length_set ..)) _ (List.length_set ..)) _ (List.length_set ..)) _ (List.length_set ..)) _ (List.length_set ..)) _ (List.length_set ..)) _ (List.length_set ..)) _ (List.length_set ..)) _ (List.length_set ..)) _ (List.length_set ..)) _ (List.length_set ..)) _ (List.length_set ..)) _ (List.length_set ..)) _ (List.length_set ..)) _ (List.length_set ..)) _ (List.length_set ..)) _ (List.length_set ..)) _ (List.length_set ..)) _ (List.length_set ..)) _ (List.length_set ..)) _ (List.length_set ..)) _ (List.length_set ..)) _ (List.length_set ..)) _ (List.length_set ..)) _ (List.length_set ..)) _ (List.length_set ..)) _ (List.length_set ..)) _ (List.length_set ..)) _ (List.length_set ..)) _ (List.length_set ..)) _ (List.length_set ..)) _ (List.length_set ..)) _ (List.length_set ..)) _ (List.length_set ..)) _ (List.length_set ..)) _ (List.length_set ..)) _ (List.length_set ..)) _ (List.length_set ..)) _ (List.length_set ..)) _ (List.length_set ..)) _ (List.length_set ..)) _ (List.length_set ..)) _ (List.length_set ..)) _ (List.length_set ..)) _ (List.length_set ..)) _ (List.length_set ..)) _ (List.length_set ..)) _ (List.length_set ..)) _ (List.length_set ..)) _ (List.length_set ..)) _ (List.length_set ..)) _ (List.length_set ..)) _ (List.length_set ..)) _ (List.length_set ..)) _ (List.length_set ..)) _ (List.length_set ..)) _ (List.length_set ..)) _ (List.length_set ..)) _ (List.length_set ..)) _ (List.length_set ..)) _ (List.length_set ..)) _ (List.length_set ..)) _ (List.length_set ..)) _ (List.length_set ..)) _ (List.length_set ..)) _ (List.length_set ..)) _ (List.length_set ..)) _ (List.length_set ..)) _ (List.length_set ..)) (c := 74) (n := 89) (by decide) rfl (by decide) (by decide)) (wa_74 _ _) ?_
                refine rb_iinc (lv' := [some (.ref 68), some (.int 83)]) rfl rfl ?_
                refine rb_goto ?_
                refine rn_step rfl ?_
                refine rb_iload rfl ?_
                refine rb_push ?_
                refine rb_cge (fun h => absurd h (by decide)) (fun _ => ?_)
                refine rb_aload rfl ?_
                refine rb_getf (v := .ref 74) rfl ?_
                refine rb_iload rfl ?_
                refine rb_aload rfl ?_
                refine rb_getf (v := .ref 69) rfl ?_
                refine rb_iload rfl ?_
                refine rb_iald rfl (by decide) (show _ = some (0) from rfl) ?_
                refine rb_iast rfl (by decide) (ok_lt (okL.sA (okL.sA (okL.sA (okL.sA (okL.sA (okL.sA (okL.sA (okL.sA (okL.sA (okL.sA (okL.sA (okL.sA (okL.sA (okL.sA (okL.sA (okL.sA (okL.sA (okL.sA (okL.sA (okL.sA (okL.sA (okL.sA (okL.sA (okL.sA (okL.sA (okL.sA (okL.sA (okL.sA (okL.sA (okL.sA (okL.sA (okL.sA (okL.sA (okL.sA (okL.sA (okL.sA (okL.sA (okL.sA (okL.sA (okL.sA (okL.sA (okL.sA (okL.sA (okL.sA (okL.sA (okL.sA (okL.sA (okL.sA (okL.sA (okL.sA (okL.sA (okL.sA (okL.sA (okL.sA (okL.sA (okL.sA (okL.sA (okL.sA (okL.sA (okL.sA (okL.sA (okL.sA (okL.sA (okL.sA (okL.sA (okL.sA (okL.sA (okL.sA (okL.sA (okL.sA (okL.sA (okL.sA (okL.sA (okL.sA (okL.sA (okL.sA (okL.sA (okL.sA (okL.sA (okL.sA (okL.sA (okL.sA (okL.sA s1_ok _ (List.length_set ..)) _ (List.length_set ..)) _ (List.length_set ..)) _ (List.length_set ..)) _ (List.length_set ..)) _ (List.length_set ..)) _ (List.length_set ..)) _ (List.length_set ..)) _ (List.length_set ..)) _ (List.length_set ..)) _ (List.length_set ..)) _ (List.length_set ..)) _ (List.length_set ..)) _ (List.length_set ..)) _ (List.length_set ..)) _ (List.length_set ..)) _ (List.length_set ..)) _ (List.length_set ..)) _ (List.length_set ..)) _ (List.length_set ..)) _ (List.length_set ..)) _ (List.length_set ..)) _ (List.length_set ..)) _ (List.length_set ..)) _ (List.length_set ..)) _ (List.length_set ..)) _ (List.length_set ..)) _ (List.length_set ..)) _ (List.length_set ..)) _ (List.length_set ..)) _ (List.length_set ..)) _ (List.length_set ..)) _ (List.length_set ..)) _ (List.length_set ..)) _ (List.length_set ..)) _ (List.length_set ..)) _ (List.length_set ..)) _ (List.length_set ..)) _ (List.length_set ..)) _ (List.length_set ..)) _ (List.length_set ..)) _ (List.length_set ..)) _ (List.length_set ..)) _ (List.length_set ..)) _ (List.length_set ..)) _ (List.length_set ..)) _ (List.length_set ..)) _ (List.length_set ..)) _ (List.length_set ..)) _ (List.length_set ..)) _ (List.length_set ..)) _ (List.length_set ..)) _ (List.length_set ..)) _ (List.length_set ..)) _ (List.length_set ..)) _ (List.length_set ..)) _ (List.length_set ..)) _ (List.length_set ..)) _ (List.length_set ..)) _ (List.length_set ..)) _ (List.length_set ..)) _ (List.length_set ..)) _ (List.length_set ..)) _ (List.length_set ..)) _ (List.length_set ..)) _ (List.length_set ..)) _ (List.length_set ..)) _ (List.length_set ..)) _ (List.length_set ..)) _ (List.length_set ..)) _ (List.length_set ..)) _ (List.length_set ..)) _ (List.length_set ..)) _ (List.length_set ..)) _ (List.length_set ..)) _ (List.length_set ..)) _ (List.length_set ..)) _ (List.length_set ..)) _ (List.length_set ..)) _ (List.length_set ..)) _ (List.length_set ..)) _ (List.length_set ..)) _ (List.length_set ..)) (c := 74) (n := 89) (by decide) rfl (by decide) (by decide)) (wa_74 _ _) ?_
                refine rb_iinc (lv' := [some (.ref 68), some (.int 84)]) rfl rfl ?_
                refine rb_goto ?_
                refine rn_step rfl ?_
                refine rb_iload rfl ?_
                refine rb_push ?_
                refine rb_cge (fun h => absurd h (by decide)) (fun _ => ?_)
                refine rb_aload rfl ?_
                refine rb_getf (v := .ref 74) rfl ?_
                refine rb_iload rfl ?_
                refine rb_aload rfl ?_
                refine rb_getf (v := .ref 69) rfl ?_
                refine rb_iload rfl ?_
                refine rb_iald rfl (by decide) (show _ = some (0) from rfl) ?_
                refine rb_iast rfl (by decide) (ok_lt (okL.sA (okL.sA (okL.sA (okL.sA (okL.sA (okL.sA (okL.sA (okL.sA (okL.sA (okL.sA (okL.sA (okL.sA (okL.sA (okL.sA (okL.sA (okL.sA (okL.sA (okL.sA (okL.sA (okL.sA (okL.sA (okL.sA (okL.sA (okL.sA (okL.sA (okL.sA (okL.sA (okL.sA (okL.sA (okL.sA (okL.sA (okL.sA (okL.sA (okL.sA (okL.sA (okL.sA (okL.sA (okL.sA (okL.sA (okL.sA (okL.sA (okL.sA (okL.sA (okL.sA (okL.sA (okL.sA (okL.sA (okL.sA (okL.sA (okL.sA (okL.sA (okL.sA (okL.sA (okL.sA (okL.sA (okL.sA (okL.sA (okL.sA (okL.sA (okL.sA (okL.sA (okL.sA (okL.sA (okL.sA (okL.sA (okL.sA (okL.sA (okL.sA (okL.sA (okL.sA (okL.sA (okL.sA (okL.sA (okL.sA (okL.sA (okL.sA (okL.sA (okL.sA (okL.sA (okL.sA (okL.sA (okL.sA (okL.sA (okL.sA s1_ok _ (List.length_set ..)) _ (List.length_set ..)) _ (List.length_set ..)) _ (List.length_set ..)) _ (List.length_set ..)) _ (List.length_set ..)) _ (List.length_set ..)) _ (List.length_set ..)) _ (List.length_set ..)) _ (List.length_set ..)) _ (List.length_set ..)) _ (List.length_set ..)) _ (List.length_set ..)) _ (List.length_set ..)) _ (List.length_set ..)) _ (List.length_set ..)) _ (List.length_set ..)) _ (List.length_set ..)) _ (List.length_set ..)) _ (List.length_set ..)) _ (List.length_set ..)) _ (List.length_set ..)) _ (List.length_set ..)) _ (List.length_set ..)) _ (List.length_set ..)) _ (List.length_set ..)) _ (List.length_set ..)) _ (List.length_set ..)) _ (List.length_set ..)) _ (List.length_set ..)) _ (List.length_set ..)) _ (List.length_set ..)) _ (List.length_set ..)) _ (List.length_set ..)) _ (List.length_set ..)) _ (List.length_set ..)) _ (List.length_set ..)) _ (List.length_set ..)) _ (List.length_set ..)) _ (List.length_set ..)) _ (List.length_set ..)) _ (List.length_set ..)) _ (List.length_set ..)) _ (List.length_set ..)) _ (List.length_set ..)) _ (List.length_set ..)) _ (List.length_set ..)) _ (List.length_set ..)) _ (List.length_set ..)) _ (List.length_set ..)) _ (List.length_set ..)) _ (List.length_set ..)) _ (List.length_set ..)) _ (List.length_set ..)) _ (List.length_set ..)) _ (List.length_set ..)) _ (List.length_set ..)) _ (List.length_set ..)) _ (List.length_set ..)) _ (List.length_set ..)) _ (List.length_set ..)) _ (List.length_set ..)) _ (List.length_set ..)) _ (List.length_set ..)) _ (List.length_set ..)) _ (List.length_set ..)) _ (List.length_set ..)) _ (List.length_set ..)) _ (List.length_set ..)) _ (List.length_set ..)) _ (List.length_set ..)) _ (List.length_set ..)) _ (List.length_set ..)) _ (List.length_set ..)) _ (List.length_set ..)) _ (List.length_set ..)) _ (List.length_set ..)) _ (List.length_set ..)) _ (List.length_set ..)) _ (List.length_set ..)) _ (List.length_set ..)) _ (List.length_set ..)) _ (List.length_set ..)) _ (List.length_set ..)) (c := 74) (n := 89) (by decide) rfl (by decide) (by decide)) (wa_74 _ _) ?_
                refine rb_iinc (lv' := [some (.ref 68), some (.int 85)]) rfl rfl ?_
                refine rb_goto ?_
                refine rn_step rfl ?_
                refine rb_iload rfl ?_
                refine rb_push ?_
                refine rb_cge (fun h => absurd h (by decide)) (fun _ => ?_)
                refine rb_aload rfl ?_
                refine rb_getf (v := .ref 74) rfl ?_
                refine rb_iload rfl ?_
                refine rb_aload rfl ?_
                refine rb_getf (v := .ref 69) rfl ?_
                refine rb_iload rfl ?_
                refine rb_iald rfl (by decide) (show _ = some (0) from rfl) ?_
                refine rb_iast rfl (by decide) (ok_lt (okL.sA (okL.sA (okL.sA (okL.sA (okL.sA (okL.sA (okL.sA (okL.sA (okL.sA (okL.sA (okL.sA (okL.sA (okL.sA (okL.sA (okL.sA (okL.sA (okL.sA (okL.sA (okL.sA (okL.sA (okL.sA (okL.sA (okL.sA (okL.sA (okL.sA (okL.sA (okL.sA (okL.sA (okL.sA (okL.sA (okL.sA (okL.sA (okL.sA (okL.sA (okL.sA (okL.sA (okL.sA (okL.sA (okL.sA (okL.sA (okL.sA (okL.sA (okL.sA (okL.sA (okL.sA (okL.sA (okL.sA (okL.sA (okL.sA (okL.sA (okL.sA (okL.sA (okL.sA (okL.sA (okL.sA (okL.sA (okL.sA (okL.sA (okL.sA (okL.sA (okL.sA (okL.sA (okL.sA (okL.sA (okL.sA (okL.sA (okL.sA (okL.sA (okL.sA (okL.sA (okL.sA (okL.sA (okL.sA (okL.sA (okL.sA (okL.sA (okL.sA (okL.sA (okL.sA (okL.sA (okL.sA (okL.sA (okL.sA (okL.sA (okL.sA s1_ok _ (List.length_set ..)) _ (List.length_set ..)) _ (List.length_set ..)) _ (List.length_set ..)) _ (List.length_set ..)) _ (List.length_set ..)) _ (List.length_set ..)) _ (List.length_set ..)) _ (List.length_set ..)) _ (List.length_set ..)) _ (List.length_set ..)) _ (List.length_set ..)) _ (List.length_set ..)) _ (List.length_set ..)) _ (List.length_set ..)) _ (List.length_set ..)) _ (List.length_set ..)) _ (List.length_set ..)) _ (List.length_set ..)) _ (List.length_set ..)) _ (List.length_set ..)) _ (List.length_set ..)) _ (List.length_set ..)) _ (List.length_set ..)) _ (List.length_set ..)) _ (List.length_set ..)) _ (List.length_set ..)) _ (List.length_set ..)) _ (List.length_set ..)) _ (List.length_set ..)) _ (List.length_set ..)) _ (List.length_set ..)) _ (List.length_set ..)) _ (List.length_set ..)) _ (List.length_set ..)) _ (List.length_set ..)) _ (List.length_set ..)) _ (List.length_set ..)) _ (List.length_set ..)) _ (List.length_set ..)) _ (List.length_set ..)) _ (List.length_set ..)) _ (List.length_set ..)) _ (List.length_set ..)) _ (List.length_set ..)) _ (List.length_set ..)) _ (List.length_set ..)) _ (List.length_set ..)) _ (List.length_set ..)) _ (List.length_set ..)) _ (List.length_set ..)) _ (List.length_set ..)) _ (List.length_set ..)) _ (List.length_set ..)) _ (List.length_set ..)) _ (List.length_set ..)) _ (List.length_set ..)) _ (List.length_set ..)) _ (List.length_set ..)) _ (List.length_set ..)) _ (List.length_set ..)) _ (List.length_set ..)) _ (List.length_set ..)) _ (List.length_set ..)) _ (List.length_set ..)) _ (List.length_set ..)) _ (List.length_set ..)) _ (List.length_set ..)) _ (List.length_set ..)) _ (List.length_set ..)) _ (List.length_set ..)) _ (List.length_set ..)) _ (List.length_set ..)) _ (List.length_set ..)) _ (List.length_set ..)) _ (List.length_set ..)) _ (List.length_set ..)) _ (List.length_set ..)) _ (List.length_set ..)) _ (List.length_set ..)) _ (List.length_set ..)) _ (List.length_set ..)) _ (List.length_set ..)) _ (List.length_set ..)) _ (List.length_set ..)) (c := 74) (n := 89) (by decide) rfl (by decide) (by decide)) (wa_74 _ _) ?_
                refine rb_iinc (lv' := [some (.ref 68), some (.int 86)]) rfl rfl ?_
                refine rb_goto ?_
                refine rn_step rfl ?_
                refine rb_iload rfl ?_
                refine rb_push ?_
                refine rb_cge (fun h => absurd h (by decide)) (fun _ => ?_)
                refine rb_aload rfl ?_
                refine rb_getf (v := .ref 74) rfl ?_
                refine rb_iload rfl ?_
                refine rb_aload rfl ?_
                refine rb_getf (v := .ref 69) rfl ?_
                refine rb_iload rfl ?_
                refine rb_iald rfl (by decide) (show _ = some (0) from rfl) ?_
                refine rb_iast rfl (by decide) (ok_lt (okL.sA (okL.sA (okL.sA (okL.sA (okL.sA (okL.sA (okL.sA (okL.sA (okL.sA (okL.sA (okL.sA (okL.sA (okL.sA (okL.sA (okL.sA (okL.sA (okL.sA (okL.sA (okL.sA (okL.sA (okL.sA (okL.sA (okL.sA (okL.sA (okL.sA (okL.sA (okL.sA (okL.sA (okL.sA (okL.sA (okL.sA (okL.sA (okL.sA (okL.sA (okL.sA (okL.sA (okL.sA (okL.sA (okL.sA (okL.sA (okL.sA (okL.sA (okL.sA (okL.sA (okL.sA (okL.sA (okL.sA (okL.sA (okL.sA (okL.sA (okL.sA (okL.sA (okL.sA (okL.sA (okL.sA (okL.sA (okL.sA (okL.sA (okL.sA (okL.sA (okL.sA (okL.sA (okL.sA (okL.sA (okL.sA (okL.sA (okL.sA (okL.sA (okL.sA (okL.sA (okL.sA (okL.sA (okL.sA (okL.sA (okL.sA (okL.sA (okL.sA (okL.sA (okL.sA (okL.sA (okL.sA (okL.sA (okL.sA (okL.sA (okL.sA (okL.sA s1_ok _ (List.length_set ..)) _ (List.length_set ..)) _ (List.length_set ..)) _ (List.length_set ..)) _ (List.length_set ..)) _ (List.length_set ..)) _ (List.length_set ..)) _ (List.length_set ..)) _ (List.length_set ..)) _ (List.length_set ..)) _ (List.length_set ..)) _ (List.length_set ..)) _ (List.length_set ..)) _ (List.length_set ..)) _ (List.length_set ..)) _ (List.length_set ..)) _ (List.length_set ..)) _ (List.length_set ..)) _ (List.length_set ..)) _ (List.length_set ..)) _ (List.length_set ..)) _ (List.length_set ..)) _ (List.length_set ..)) _ (List.length_set ..)) _ (List.length_set ..)) _ (List.length_set ..)) _ (List.length_set ..)) _ (List.length_set ..)) _ (List.length_set ..)) _ (List.length_set ..)) _ (List.length_set ..)) _ (List.length_set ..)) _ (List.length_set ..)) _ (List.length_set ..)) _ (List.length_set ..)) _ (List.length_set ..)) _ (List.length_set ..)) _ (List.length_set ..)) _ (List.length_set ..)) _ (List.length_set ..)) _ (List.length_set ..)) _ (List.length_set ..)) _ (List.length_set ..)) _ (List.length_set ..)) _ (List.length_set ..)) _ (List.length_set ..)) _ (List.length_set ..)) _ (List.length_set ..)) _ (List.length_set ..)) _ (List.length_set ..)) _ (List.length_set ..)) _ (List.length_set ..)) _ (List.length_set ..)) _ (List.length_set ..)) _ (List.length_set ..)) _ (List.length_set ..)) _ (List.length_set ..)) _ (List.length_set ..)) _ (List.length_set ..)) _ (List.length_set ..)) _ (List.length_set ..)) _ (List.length_set ..)) _ (List.length_set ..)) _ (List.length_set ..)) _ (List.length_set ..)) _ (List.length_set ..)) _ (List.length_set ..)) _ (List.length_set ..)) _ (List.length_set ..)) _ (List.length_set ..)) _ (List.length_set ..)) _ (List.length_set ..)) _ (List.length_set ..)) _ (List.length_set ..)) _ (List.length_set ..)) _ (List.length_set ..)) _ (List.length_set ..)) _ (List.length_set ..)) _ (List.length_set ..)) _ (List.length_set ..)) _ (List.length_set ..)) _ (List.length_set ..)) _ (List.length_set ..)) _ (List.length_set ..)) _ (List.length_set ..)) _ (List.length_set ..)) (c := 74) (n := 89) (by decide) rfl (by decide) (by decide)) (wa_74 _ _) ?_
                refine rb_iinc (lv' := [some (.ref 68), some (.int 87)]) rfl rfl ?_
                refine rb_goto ?_
                refine rn_step rfl ?_
                refine rb_iload rfl ?_
                refine rb_push ?_
                refine rb_cge (fun h => absurd h (by decide)) (fun _ => ?_)
                refine rb_aload rfl ?_
                refine rb_getf (v := .ref 74) rfl ?_
                refine rb_iload rfl ?_
                refine rb_aload rfl ?_
                refine rb_getf (v := .ref 69) rfl ?_
                refine rb_iload rfl ?_
                refine rb_iald rfl (by decide) (show _ = some (0) from rfl) ?_
                refine rb_iast rfl (by decide) (ok_lt (okL.sA (okL.sA (okL.sA (okL.sA (okL.sA (okL.sA (okL.sA (okL.sA (okL.sA (okL.sA (okL.sA (okL.sA (okL.sA (okL.sA (okL.sA (okL.sA (okL.sA (okL.sA (okL.sA (okL.sA (okL.sA (okL.sA (okL.sA (okL.sA (okL.sA (okL.sA (okL.sA (okL.sA (okL.sA (okL.sA (okL.sA (okL.sA (okL.sA (okL.sA (okL.sA (okL.sA (okL.sA (okL.sA (okL.sA (okL.sA (okL.sA (okL.sA (okL.sA (okL.sA (okL.sA (okL.sA (okL.sA (okL.sA (okL.sA (okL.sA (okL.sA (okL.sA (okL.sA (okL.sA (okL.sA (okL.sA (okL.sA (okL.sA (okL.sA (okL.sA (okL.sA (okL.sA (okL.sA (okL.sA (okL.sA (okL.sA (okL.sA (okL.sA (okL.sA (okL.sA (okL.sA (okL.sA (okL.sA (okL.sA (okL.sA (okL.sA (okL.sA (okL.sA (okL.sA (okL.sA (okL.sA (okL.sA (okL.sA (okL.sA (okL.sA (okL.sA (okL.sA s1_ok _ (List.length_set ..)) _ (List.length_set ..)) _ (List.length_set ..)) _ (List.length_set ..)) _ (List.length_set ..)) _ (List.length_set ..)) _ (List.length_set ..)) _ (List.length_set ..)) _ (List.length_set ..)) _ (List.length_set ..)) _ (List.length_set ..)) _ (List.length_set ..)) _ (List.length_set ..)) _ (List.length_set ..)) _ (List.length_set ..)) _ (List.length_set ..)) _ (List.length_set ..)) _ (List.length_set ..)) _ (List.length_set ..)) _ (List.length_set ..)) _ (List.length_set ..)) _ (List.length_set ..)) _ (List.length_set ..)) _ (List.length_set ..)) _ (List.length_set ..)) _ (List.length_set ..)) _ (List.length_set ..)) _ (List.length_set ..)) _ (List.length_set ..)) _ (List.length_set ..)) _ (List.length_set ..)) _ (List.length_set ..)) _ (List.length_set ..)) _ (List.length_set ..)) _ (List.length_set ..)) _ (List.length_set ..)) _ (List.length_set ..)) _ (List.length_set ..)) _ (List.length_set ..)) _ (List.length_set ..)) _ (List.length_set ..)) _ (List.length_set ..)) _ (List.length_set ..)) _ (List.length_set ..)) _ (List.length_set ..)) _ (List.length_set ..)) _ (List.length_set ..)) _ (List.length_set ..)) _ (List.length_set ..)) _ (List.length_set ..)) _ (List.length_set ..)) _ (List.length_set ..)) _ (List.length_set ..)) _ (List.length_set ..)) _ (List.length_set ..)) _ (List.length_set ..)) _ (List.length_set ..)) _ (List.length_set ..)) _ (List.length_set ..)) _ (List.length_set ..)) _ (List.length_set ..)) _ (List.length_set ..)) _ (List.length_set ..)) _ (List.length_set ..)) _ (List.length_set ..)) _ (List.length_set ..)) _ (List.length_set ..)) _ (List.length_set ..)) _ (List.length_set ..)) _ (List.length_set ..)) _ (List.length_set ..)) _ (List.length_set ..)) _ (List.length_set ..)) _ (List.length_set ..)) _ (List.length_set ..)) _ (List.length_set ..)) _ (List.length_set ..)) _ (List.length_set ..)) _ (List.length_set ..)) _ (List.length_set ..)) _ (List.length_set ..)) _ (List.length_set ..)) _ (List.length_set ..)) _ (List.length_set ..)) _ (List.length_set ..)) _ (List.length_set ..)) _ (List.length_set ..)) (c := 74) (n := 89) (by decide) rfl (by decide) (by decide)) (wa_74 _ _) ?_
                refine rb_iinc (lv' := [some (.ref 68), some (.int 88)]) rfl rfl ?_
                refine rb_goto ?_
                refine rn_step rfl ?_
                refine rb_iload rfl ?_
                refine rb_push ?_
                refine rb_cge (fun h => absurd h (by decide)) (fun _ => ?_)
                refine rb_aload rfl ?_
                refine rb_getf (v := .ref 74) rfl ?_
                refine rb_iload rfl ?_
                refine rb_aload rfl ?_
                refine rb_getf (v := .ref 69) rfl ?_
                refine rb_iload rfl ?_
                refine rb_iald rfl (by decide) (show _ = some (0) from rfl) ?_
                refine rb_iast rfl (by decide) (ok_lt (okL.sA (okL.sA (okL.sA (okL.sA (okL.sA (okL.sA (okL.sA (okL.sA (okL.sA (okL.sA (okL.sA (okL.sA (okL.sA (okL.sA (okL.sA (okL.sA (okL.sA (okL.sA (okL.sA (okL.sA (okL.sA (okL.sA (okL.sA (okL.sA (okL.sA (okL.sA (okL.sA (okL.sA (okL.sA (okL.sA (okL.sA (okL.sA (okL.sA (okL.sA (okL.sA (okL.sA (okL.sA (okL.sA (okL.sA (okL.sA (okL.sA (okL.sA (okL.sA (okL.sA (okL.sA (okL.sA (okL.sA (okL.sA (okL.sA (okL.sA (okL.sA (okL.sA (okL.sA (okL.sA (okL.sA (okL.sA (okL.sA (okL.sA (okL.sA (okL.sA (okL.sA (okL.sA (okL.sA (okL.sA (okL.sA (okL.sA (okL.sA (okL.sA (okL.sA (okL.sA (okL.sA (okL.sA (okL.sA (okL.sA (okL.sA (okL.sA (okL.sA (okL.sA (okL.sA (okL.sA (okL.sA (okL.sA (okL.sA (okL.sA (okL.sA (okL.sA (okL.sA (okL.sA s1_ok _ (List.length_set ..)) _ (List.length_set ..)) _ (List.length_set ..)) _ (List.length_set ..)) _ (List.length_set ..)) _ (List.length_set ..)) _ (List.length_set ..)) _ (List.length_set ..)) _ (List.length_set ..)) _ (List.length_set ..)) _ (List.length_set ..)) _ (List.length_set ..)) _ (List.length_set ..)) _ (List.length_set ..)) _ (List.length_set ..)) _ (List.length_set ..)) _ (List.length_set ..)) _ (List.length_set ..)) _ (List.length_set ..)) _ (List.length_set ..)) _ (List.length_set ..)) _ (List.length_set ..)) _ (List.length_set ..)) _ (List.length_set ..)) _ (List.length_set ..)) _ (List.length_set ..)) _ (List.length_set ..)) _ (List.length_set ..)) _ (List.length_set ..)) _ (List.length_set ..)) _ (List.length_set ..)) _ (List.length_set ..)) _ (List.length_set ..)) _ (List.length_set ..)) _ (List.length_set ..)) _ (List.length_set ..)) _ (List.length_set ..)) _ (List.length_set ..)) _ (List.length_set ..)) _ (List.length_set ..)) _ (List.length_set ..)) _ (List.length_set ..)) _ (List.length_set ..)) _ (List.length_set ..)) _ (List.length_set ..)) _ (List.length_set ..)) _ (List.length_set ..)) _ (List.length_set ..)) _ (List.length_set ..)) _ (List.length_set ..)) _ (List.length_set ..)) _ (List.length_set ..)) _ (List.length_set ..)) _ (List.length_set ..)) _ (List.length_set ..)) _ (List.length_set ..)) _ (List.length_set ..)) _ (List.length_set ..)) _ (List.length_set ..)) _ (List.length_set ..)) _ (List.length_set ..)) _ (List.length_set ..)) _ (List.length_set ..)) _ (List.length_set ..)) _ (List.length_set ..)) _ (List.length_set ..)) _ (List.length_set ..)) _ (List.length_set ..)) _ (List.length_set ..)) _ (List.length_set ..)) _ (List.length_set ..)) _ (List.length_set ..)) _ (List.length_set ..)) _ (List.length_set ..)) _ (List.length_set ..)) _ (List.length_set ..)) _ (List.length_set ..)) _ (List.length_set ..)) _ (List.length_set ..)) _ (List.length_set ..)) _ (List.length_set ..)) _ (List.length_set ..)) _ (List.length_set ..)) _ (List.length_set ..)) _ (List.length_set ..)) _ (List.length_set ..)) _ (List.length_set ..)) _ (List.length_set ..)) (c := 74) (n := 89) (by decide) rfl (by decide) (by decide)) (wa_74 _ _) ?_
                refine rb_iinc (lv' := [some (.ref 68), some (.int 89)]) rfl rfl ?_
                refine rb_goto ?_
                refine rn_step rfl ?_
                refine rb_iload rfl ?_
                refine rb_push ?_
                refine rb_cge (fun _ => ?_) (fun h => absurd (by decide) h)
                refine rn_step rfl ?_
                refine rb_retv rfl
              refine rb_push ?_
              refine rb_istore (lv' := [some (.ref 68), some (.int (a)), some (.int 1), some (.int (-1)), none, none, none]) rfl ?_
              refine rb_push ?_
              refine rb_istore (lv' := [some (.ref 68), some (.int (a)), some (.int 1), some (.int (-1)), some (.int 0), none, none]) rfl ?_
              refine rb_push ?_
              refine rb_istore (lv' := [some (.ref 68), some (.int (a)), some (.int 1), some (.int (-1)), some (.int 0), some (.int 0), none]) rfl ?_
              refine rb_goto ?_
              refine rn_step rfl ?_
              refine rb_iload rfl ?_
              refine rb_aload rfl ?_
              refine rb_getf (v := .ref 69) rfl ?_
              refine rb_push ?_
              refine rb_iald rfl (by decide) (show _ = some (0) from rfl) ?_
              refine rb_cge (fun _ => ?_) (fun h => absurd (by decide) h)
              refine rn_step rfl ?_
              refine rb_iload rfl ?_
              refine rb_ige (fun h => absurd h (by decide)) (fun _ => ?_)
              refine rb_push ?_
              refine rb_goto ?_
              refine rn_step rfl ?_
              refine rb_ret rfl rfl
            case h3 => exact (okL.sA (okL.sA (okL.sA (okL.sA (okL.sA (okL.sA (okL.sA (okL.sA (okL.sA (okL.sA (okL.sA (okL.sA (okL.sA (okL.sA (okL.sA (okL.sA (okL.sA (okL.sA (okL.sA (okL.sA (okL.sA (okL.sA (okL.sA (okL.sA (okL.sA (okL.sA (okL.sA (okL.sA (okL.sA (okL.sA (okL.sA (okL.sA (okL.sA (okL.sA (okL.sA (okL.sA (okL.sA (okL.sA (okL.sA (okL.sA (okL.sA (okL.sA (okL.sA (okL.sA (okL.sA (okL.sA (okL.sA (okL.sA (okL.sA (okL.sA (okL.sA (okL.sA (okL.sA (okL.sA (okL.sA (okL.sA (okL.sA (okL.sA (okL.sA (okL.sA (okL.sA (okL.sA (okL.sA (okL.sA (okL.sA (okL.sA (okL.sA (okL.sA (okL.sA (okL.sA (okL.sA (okL.sA (okL.sA (okL.sA (okL.sA (okL.sA (okL.sA (okL.sA (okL.sA (okL.sA (okL.sA (okL.sA (okL.sA (okL.sA (okL.sA (okL.sA (okL.sA (okL.sA (okL.sA s1_ok _ (List.length_set ..)) _ (List.length_set ..)) _ (List.length_set ..)) _ (List.length_set ..)) _ (List.length_set ..)) _ (List.length_set ..)) _ (List.length_set ..)) _ (List.length_set ..)) _ (List.length_set ..)) _ (List.length_set ..)) _ (List.length_set ..)) _ (List.length_set ..)) _ (List.length_set ..)) _ (List.length_set ..)) _ (List.length_set ..)) _ (List.length_set ..)) _ (List.length_set ..)) _ (List.length_set ..)) _ (List.length_set ..)) _ (List.length_set ..)) _ (List.length_set ..)) _ (List.length_set ..)) _ (List.length_set ..)) _ (List.length_set ..)) _ (List.length_set ..)) _ (List.length_set ..)) _ (List.length_set ..)) _ (List.length_set ..)) _ (List.length_set ..)) _ (List.length_set ..)) _ (List.length_set ..)) _ (List.length_set ..)) _ (List.length_set ..)) _ (List.length_set ..)) _ (List.length_set ..)) _ (List.length_set ..)) _ (List.length_set ..)) _ (List.length_set ..)) _ (List.length_set ..)) _ (List.length_set ..)) _ (List.length_set ..)) _ (List.length_set ..)) _ (List.length_set ..)) _ (List.length_set ..)) _ (List.length_set ..)) _ (List.length_set ..)) _ (List.length_set ..)) _ (List.length_set ..)) _ (List.length_set ..)) _ (List.length_set ..)) _ (List.length_set ..)) _ (List.length_set ..)) _ (List.length_set ..)) _ (List.length_set ..)) _ (List.length_set ..)) _ (List.length_set ..)) _ (List.length_set ..)) _ (List.length_set ..)) _ (List.length_set ..)) _ (List.length_set ..)) _ (List.length_set ..)) _ (List.length_set ..)) _ (List.length_set ..)) _ (List.length_set ..)) _ (List.length_set ..)) _ (List.length_set ..)) _ (List.length_set ..)) _ (List.length_set ..)) _ (List.length_set ..)) _ (List.length_set ..)) _ (List.length_set ..)) _ (List.length_set ..)) _ (List.length_set ..)) _ (List.length_set ..)) _ (List.length_set ..)) _ (List.length_set ..)) _ (List.length_set ..)) _ (List.length_set ..)) _ (List.length_set ..)) _ (List.length_set ..)) _ (List.length_set ..)) _ (List.length_set ..)) _ (List.length_set ..)) _ (List.length_set ..)) _ (List.length_set ..)) _ (List.length_set ..)) _ (List.length_set ..)) _ (List.length_set ..)) _ (List.length_set ..))
            case h4 => exact rfl
        ·
          apply p1_intro (v := (-1000000001))
          case h1 =>
            apply ex_X8_lost
            refine rn_step rfl ?_
            refine rb_iload rfl ?_
            refine rb_push ?_
            refine rb_push ?_
            apply rb_callS3
            case hcl => exact rfl
            case hc =>
              apply ex_X8_within
              refine rn_step rfl ?_
              refine rb_iload rfl ?_
              refine rb_iload rfl ?_
              refine rb_clt (fun h => absurd h (ia_nlt hla (by decide))) (fun _ => ?_)
              refine rb_iload rfl ?_
              refine rb_iload rfl ?_
              refine rb_cgt (fun h => absurd h (ia_ngt hha (by decide))) (fun _ => ?_)
              refine rb_push ?_
              refine rb_goto ?_
              refine rn_step rfl ?_
              refine rb_ret rfl rfl
            refine rb_ieq (fun h => absurd h (by decide)) (fun _ => ?_)
            refine rb_iload rfl ?_
            refine rb_push ?_
            refine rb_push ?_
            apply rb_callS3
            case hcl => exact rfl
            case hc =>
              apply ex_X8_within
              refine rn_step rfl ?_
              refine rb_iload rfl ?_
              refine rb_iload rfl ?_
              refine rb_clt (fun h => absurd h (ia_nlt hlb (by decide))) (fun _ => ?_)
              refine rb_iload rfl ?_
              refine rb_iload rfl ?_
              refine rb_cgt (fun _ => ?_) (fun h => absurd (ia_gt hlb (by decide)) h)
              refine rn_step rfl ?_
              refine rb_push ?_
              refine rb_goto ?_
              refine rn_step rfl ?_
              refine rb_ret rfl rfl
            refine rb_ine (fun h => absurd (by decide) h) (fun _ => ?_)
            refine rb_goto ?_
            refine rn_step rfl ?_
            refine rb_push ?_
            refine rb_ret rfl rfl
          case h2 =>
            apply ex_X9_lost
            refine rn_step rfl ?_
            refine rb_iload rfl ?_
            refine rb_push ?_
            refine rb_push ?_
            apply rb_callS3
            case hcl => exact rfl
            case hc =>
              apply ex_X9_in
              refine rn_step rfl ?_
              refine rb_iload rfl ?_
              refine rb_iload rfl ?_
              refine rb_clt (fun h => absurd h (ia_nlt hla (by decide))) (fun _ => ?_)
              refine rb_iload rfl ?_
              refine rb_iload rfl ?_
              refine rb_cgt (fun h => absurd h (ia_ngt hha (by decide))) (fun _ => ?_)
              refine rb_push ?_
              refine rb_goto ?_
              refine rn_step rfl ?_
              refine rb_ret rfl rfl
            refine rb_ieq (fun h => absurd h (by decide)) (fun _ => ?_)
            refine rb_iload rfl ?_
            refine rb_push ?_
            refine rb_push ?_
            apply rb_callS3
            case hcl => exact rfl
            case hc =>
              apply ex_X9_in
              refine rn_step rfl ?_
              refine rb_iload rfl ?_
              refine rb_iload rfl ?_
              refine rb_clt (fun h => absurd h (ia_nlt hlb (by decide))) (fun _ => ?_)
              refine rb_iload rfl ?_
              refine rb_iload rfl ?_
              refine rb_cgt (fun _ => ?_) (fun h => absurd (ia_gt hlb (by decide)) h)
              refine rn_step rfl ?_
              refine rb_push ?_
              refine rb_goto ?_
              refine rn_step rfl ?_
              refine rb_ret rfl rfl
            refine rb_ine (fun h => absurd (by decide) h) (fun _ => ?_)
            refine rb_goto ?_
            refine rn_step rfl ?_
            refine rb_push ?_
            refine rb_ret rfl rfl
          case h3 => exact s1_ok
          case h4 => exact rfl
    ·
      apply p1_intro (v := (-1000000001))
      case h1 =>
        apply ex_X8_lost
        refine rn_step rfl ?_
        refine rb_iload rfl ?_
        refine rb_push ?_
        refine rb_push ?_
        apply rb_callS3
        case hcl => exact rfl
        case hc =>
          apply ex_X8_within
          refine rn_step rfl ?_
          refine rb_iload rfl ?_
          refine rb_iload rfl ?_
          refine rb_clt (fun h => absurd h (ia_nlt hla (by decide))) (fun _ => ?_)
          refine rb_iload rfl ?_
          refine rb_iload rfl ?_
          refine rb_cgt (fun _ => ?_) (fun h => absurd (ia_gt hla (by decide)) h)
          refine rn_step rfl ?_
          refine rb_push ?_
          refine rb_goto ?_
          refine rn_step rfl ?_
          refine rb_ret rfl rfl
        refine rb_ieq (fun _ => ?_) (fun h => absurd (by decide) h)
        refine rn_step rfl ?_
        refine rb_push ?_
        refine rb_ret rfl rfl
      case h2 =>
        apply ex_X9_lost
        refine rn_step rfl ?_
        refine rb_iload rfl ?_
        refine rb_push ?_
        refine rb_push ?_
        apply rb_callS3
        case hcl => exact rfl
        case hc =>
          apply ex_X9_in
          refine rn_step rfl ?_
          refine rb_iload rfl ?_
          refine rb_iload rfl ?_
          refine rb_clt (fun h => absurd h (ia_nlt hla (by decide))) (fun _ => ?_)
          refine rb_iload rfl ?_
          refine rb_iload rfl ?_
          refine rb_cgt (fun _ => ?_) (fun h => absurd (ia_gt hla (by decide)) h)
          refine rn_step rfl ?_
          refine rb_push ?_
          refine rb_goto ?_
          refine rn_step rfl ?_
          refine rb_ret rfl rfl
        refine rb_ieq (fun _ => ?_) (fun h => absurd (by decide) h)
        refine rn_step rfl ?_
        refine rb_push ?_
        refine rb_ret rfl rfl
      case h3 => exact s1_ok
      case h4 => exact rfl
