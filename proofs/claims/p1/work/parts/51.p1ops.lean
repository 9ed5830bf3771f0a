set_option maxRecDepth 1000000 in
set_option maxHeartbeats 40000000 in
theorem p1_want (a b : Int32) : P1 82 152 [.int a, .int b] := by
  have hla : -2147483648 ≤ a.toInt := ia_lo a
  have hha : a.toInt ≤ 2147483647 := ia_hi a
  have hlb : -2147483648 ≤ b.toInt := ia_lo b
  have hhb : b.toInt ≤ 2147483647 := ia_hi b
  rcases ia_cut (c := 0) hla hha with ⟨hla, hha⟩ | ⟨hla, hha⟩
  ·
    apply p1_intro (v := (-1000000001))
    case h1 =>
      apply ex_X8_want
      refine rn_step rfl ?_
      refine rb_iload rfl ?_
      refine rb_push ?_
      refine rb_push ?_
      apply rb_callS3
      case hcl => exact rfl
      case hc =>
        apply ex_X8_within
        refine rn_step rfl ?_
        refine rb_iload rfl ?_
        refine rb_iload rfl ?_
        refine rb_clt (fun _ => ?_) (fun h => absurd (ia_lt hha (by decide)) h)
        refine rn_step rfl ?_
        refine rb_push ?_
        refine rb_goto ?_
        refine rn_step rfl ?_
        refine rb_ret rfl rfl
      refine rb_ieq (fun _ => ?_) (fun h => absurd (by decide) h)
      refine rn_step rfl ?_
      refine rb_push ?_
      refine rb_ret rfl rfl
    case h2 =>
      apply ex_X9_want
      refine rn_step rfl ?_
      refine rb_iload rfl ?_
      refine rb_push ?_
      refine rb_push ?_
      apply rb_callS3
      case hcl => exact rfl
      case hc =>
        apply ex_X9_in
        refine rn_step rfl ?_
        refine rb_iload rfl ?_
        refine rb_iload rfl ?_
        refine rb_clt (fun _ => ?_) (fun h => absurd (ia_lt hha (by decide)) h)
        refine rn_step rfl ?_
        refine rb_push ?_
        refine rb_goto ?_
        refine rn_step rfl ?_
        refine rb_ret rfl rfl
      refine rb_ieq (fun _ => ?_) (fun h => absurd (by decide) h)
      refine rn_step rfl ?_
      refine rb_push ?_
      refine rb_goto ?_
      refine rn_step rfl ?_
      refine rb_ret rfl rfl
    case h3 => exact s1_ok
    case h4 => exact rfl
  ·
    rcases ia_cut (c := 24) hla hha with ⟨hla, hha⟩ | ⟨hla, hha⟩
    ·
      rcases ia_cut (c := 0) hlb hhb with ⟨hlb, hhb⟩ | ⟨hlb, hhb⟩
      ·
        apply p1_intro (v := (-1000000001))
        case h1 =>
          apply ex_X8_want
          refine rn_step rfl ?_
          refine rb_iload rfl ?_
          refine rb_push ?_
          refine rb_push ?_
          apply rb_callS3
          case hcl => exact rfl
          case hc =>
            apply ex_X8_within
            refine rn_step rfl ?_
            refine rb_iload rfl ?_
            refine rb_iload rfl ?_
            refine rb_clt (fun h => absurd h (ia_nlt hla (by decide))) (fun _ => ?_)
            refine rb_iload rfl ?_
            refine rb_iload rfl ?_
            refine rb_cgt (fun h => absurd h (ia_ngt hha (by decide))) (fun _ => ?_)
            refine rb_push ?_
            refine rb_goto ?_
            refine rn_step rfl ?_
            refine rb_ret rfl rfl
          refine rb_ieq (fun h => absurd h (by decide)) (fun _ => ?_)
          refine rb_iload rfl ?_
          refine rb_push ?_
          refine rb_push ?_
          apply rb_callS3
          case hcl => exact rfl
          case hc =>
            apply ex_X8_within
            refine rn_step rfl ?_
            refine rb_iload rfl ?_
            refine rb_iload rfl ?_
            refine rb_clt (fun _ => ?_) (fun h => absurd (ia_lt hhb (by decide)) h)
            refine rn_step rfl ?_
            refine rb_push ?_
            refine rb_goto ?_
            refine rn_step rfl ?_
            refine rb_ret rfl rfl
          refine rb_ine (fun h => absurd (by decide) h) (fun _ => ?_)
          refine rb_goto ?_
          refine rn_step rfl ?_
          refine rb_push ?_
          refine rb_ret rfl rfl
        case h2 =>
          apply ex_X9_want
          refine rn_step rfl ?_
          refine rb_iload rfl ?_
          refine rb_push ?_
          refine rb_push ?_
          apply rb_callS3
          case hcl => exact rfl
          case hc =>
            apply ex_X9_in
            refine rn_step rfl ?_
            refine rb_iload rfl ?_
            refine rb_iload rfl ?_
            refine rb_clt (fun h => absurd h (ia_nlt hla (by decide))) (fun _ => ?_)
            refine rb_iload rfl ?_
            refine rb_iload rfl ?_
            refine rb_cgt (fun h => absurd h (ia_ngt hha (by decide))) (fun _ => ?_)
            refine rb_push ?_
            refine rb_goto ?_
            refine rn_step rfl ?_
            refine rb_ret rfl rfl
          refine rb_ieq (fun h => absurd h (by decide)) (fun _ => ?_)
          refine rb_iload rfl ?_
          refine rb_push ?_
          refine rb_push ?_
          apply rb_callS3
          case hcl => exact rfl
          case hc =>
            apply ex_X9_in
            refine rn_step rfl ?_
            refine rb_iload rfl ?_
            refine rb_iload rfl ?_
            refine rb_clt (fun _ => ?_) (fun h => absurd (ia_lt hhb (by decide)) h)
            refine rn_step rfl ?_
            refine rb_push ?_
            refine rb_goto ?_
            refine rn_step rfl ?_
            refine rb_ret rfl rfl
          refine rb_ieq (fun _ => ?_) (fun h => absurd (by decide) h)
          refine rn_step rfl ?_
          refine rb_push ?_
          refine rb_goto ?_
          refine rn_step rfl ?_
          refine rb_ret rfl rfl
        case h3 => exact s1_ok
        case h4 => exact rfl
      ·
        rcases ia_cut (c := 100) hlb hhb with ⟨hlb, hhb⟩ | ⟨hlb, hhb⟩
        ·
          rcases ia_cut (c := 1) hla hha with ⟨hla, hha⟩ | ⟨hla, hha⟩
          ·
            obtain rfl : a = 0 := ia_one hla hha (by decide) (by decide)
            apply p1_intro (v := 50)
            case h1 =>
              apply ex_X8_want
              refine rn_step rfl ?_
              refine rb_iload rfl ?_
              refine rb_push ?_
              refine rb_push ?_
              apply rb_callS3
              case hcl => exact rfl
              case hc =>
                apply ex_X8_within
                refine rn_step rfl ?_
                refine rb_iload rfl ?_
                refine rb_iload rfl ?_
                refine rb_clt (fun h => absurd h (by decide)) (fun _ => ?_)
                refine rb_iload rfl ?_
                refine rb_iload rfl ?_
                refine rb_cgt (fun h => absurd h (by decide)) (fun _ => ?_)
                refine rb_push ?_
                refine rb_goto ?_
                refine rn_step rfl ?_
                refine rb_ret rfl rfl
              refine rb_ieq (fun h => absurd h (by decide)) (fun _ => ?_)
              refine rb_iload rfl ?_
              refine rb_push ?_
              refine rb_push ?_
              apply rb_callS3
              case hcl => exact rfl
              case hc =>
                apply ex_X8_within
                refine rn_step rfl ?_
                refine rb_iload rfl ?_
                refine rb_iload rfl ?_
                refine rb_clt (fun h => absurd h (ia_nlt hlb (by decide))) (fun _ => ?_)
                refine rb_iload rfl ?_
                refine rb_iload rfl ?_
                refine rb_cgt (fun h => absurd h (ia_ngt hhb (by decide))) (fun _ => ?_)
                refine rb_push ?_
                refine rb_goto ?_
                refine rn_step rfl ?_
                refine rb_ret rfl rfl
              refine rb_ine (fun _ => ?_) (fun h => absurd (by decide) h)
              refine rn_step rfl ?_
              refine rb_aload rfl ?_
              refine rb_getf (v := .ref 1) rfl ?_
              refine rb_getf (v := .ref 8) rfl ?_
              refine rb_iload rfl ?_
              refine rb_iald rfl (by decide) (show _ = some (50) from rfl) ?_
              refine rb_istore (lv' := [some (.ref 0), some (.int 0), some (.int (b)), some (.int 50)]) rfl ?_
              refine rb_aload rfl ?_
              refine rb_getf (v := .ref 1) rfl ?_
              refine rb_getf (v := .ref 8) rfl ?_
              refine rb_iload rfl ?_
              refine rb_iload rfl ?_
              refine rb_iastL (xs' := [b, 50, 50, 50, 50, 50, 50, 50, 50, 50, 50, 50, 50, 50, 50, 50, 50, 50, 50, 50, 50, 50, 50, 50]) rfl (by decide) (ok_lt s1_ok (c := 8) (n := 24) (by decide) rfl (by decide) (by decide)) rfl (wa_8 _ _) ?_
              refine rb_iload rfl ?_
              refine rb_ret rfl rfl
            case h2 =>
              apply ex_X9_want
              refine rn_step rfl ?_
              refine rb_iload rfl ?_
              refine rb_push ?_
              refine rb_push ?_
              apply rb_callS3
              case hcl => exact rfl
              case hc =>
                apply ex_X9_in
                refine rn_step rfl ?_
                refine rb_iload rfl ?_
                refine rb_iload rfl ?_
                refine rb_clt (fun h => absurd h (by decide)) (fun _ => ?_)
                refine rb_iload rfl ?_
                refine rb_iload rfl ?_
                refine rb_cgt (fun h => absurd h (by decide)) (fun _ => ?_)
                refine rb_push ?_
                refine rb_goto ?_
                refine rn_step rfl ?_
                refine rb_ret rfl rfl
              refine rb_ieq (fun h => absurd h (by decide)) (fun _ => ?_)
              refine rb_iload rfl ?_
              refine rb_push ?_
              refine rb_push ?_
              apply rb_callS3
              case hcl => exact rfl
              case hc =>
                apply ex_X9_in
                refine rn_step rfl ?_
                refine rb_iload rfl ?_
                refine rb_iload rfl ?_
                refine rb_clt (fun h => absurd h (ia_nlt hlb (by decide))) (fun _ => ?_)
                refine rb_iload rfl ?_
                refine rb_iload rfl ?_
                refine rb_cgt (fun h => absurd h (ia_ngt hhb (by decide))) (fun _ => ?_)
                refine rb_push ?_
                refine rb_goto ?_
                refine rn_step rfl ?_
                refine rb_ret rfl rfl
              refine rb_ieq (fun h => absurd h (by decide)) (fun _ => ?_)
              refine rb_aload rfl ?_
              refine rb_push ?_
              refine rb_iload rfl ?_
              refine rb_binL (z := 5) (by decide) ?_
              refine rb_iload rfl ?_
              apply rb_callV2
              case hb => exact rfl
              case hcl => exact rfl
              case hc =>
                apply ex_X9_becomes
                refine rn_step rfl ?_
                refine rb_aload rfl ?_
                refine rb_getf (v := .ref 69) rfl ?_
                refine rb_iload rfl ?_
                refine rb_iald rfl (by decide) (show _ = some (50) from rfl) ?_
                refine rb_istore (lv' := [some (.ref 68), some (.int 5), some (.int (b)), some (.int 50)]) rfl ?_
                refine rb_aload rfl ?_
                refine rb_getf (v := .ref 69) rfl ?_
                refine rb_iload rfl ?_
                refine rb_iload rfl ?_
                refine rb_iast rfl (by decide) (ok_lt (okA s1_ok (c := 8) (n := 24) (by decide) rfl (by decide) rfl) (c := 69) (n := 1461) (by decide) rfl (by decide) (by decide)) (wa_69 _ _) ?_
                refine rb_iload rfl ?_
                refine rb_ret rfl rfl
              refine rb_goto ?_
              refine rn_step rfl ?_
              refine rb_ret rfl rfl
            case h3 => exact (okL.sA (okA s1_ok (c := 8) (n := 24) (by decide) rfl (by decide) rfl) _ (List.length_set ..))
            case h4 => exact rfl
          ·
            rcases ia_cut (c := 2) hla hha with ⟨hla, hha⟩ | ⟨hla, hha⟩
            ·
              obtain rfl : a = 1 := ia_one hla hha (by decide) (by decide)
              apply p1_intro (v := 50)
              case h1 =>
                apply ex_X8_want
                refine rn_step rfl ?_
                refine rb_iload rfl ?_
                refine rb_push ?_
                refine rb_push ?_
                apply rb_callS3
                case hcl => exact rfl
                case hc =>
                  apply ex_X8_within
                  refine rn_step rfl ?_
                  refine rb_iload rfl ?_
                  refine rb_iload rfl ?_
                  refine rb_clt (fun h => absurd h (by decide)) (fun _ => ?_)
                  refine rb_iload rfl ?_
                  refine rb_iload rfl ?_
                  refine rb_cgt (fun h => absurd h (by decide)) (fun _ => ?_)
                  refine rb_push ?_
                  refine rb_goto ?_
                  refine rn_step rfl ?_
                  refine rb_ret rfl rfl
                refine rb_ieq (fun h => absurd h (by decide)) (fun _ => ?_)
                refine rb_iload rfl ?_
                refine rb_push ?_
                refine rb_push ?_
                apply rb_callS3
                case hcl => exact rfl
                case hc =>
                  apply ex_X8_within
                  refine rn_step rfl ?_
                  refine rb_iload rfl ?_
                  refine rb_iload rfl ?_
                  refine rb_clt (fun h => absurd h (ia_nlt hlb (by decide))) (fun _ => ?_)
                  refine rb_iload rfl ?_
                  refine rb_iload rfl ?_
                  refine rb_cgt (fun h => absurd h (ia_ngt hhb (by decide))) (fun _ => ?_)
                  refine rb_push ?_
                  refine rb_goto ?_
                  refine rn_step rfl ?_
                  refine rb_ret rfl rfl
                refine rb_ine (fun _ => ?_) (fun h => absurd (by decide) h)
                refine rn_step rfl ?_
                refine rb_aload rfl ?_
                refine rb_getf (v := .ref 1) rfl ?_
                refine rb_getf (v := .ref 8) rfl ?_
                refine rb_iload rfl ?_
                refine rb_iald rfl (by decide) (show _ = some (50) from rfl) ?_
                refine rb_istore (lv' := [some (.ref 0), some (.int 1), some (.int (b)), some (.int 50)]) rfl ?_
                refine rb_aload rfl ?_
                refine rb_getf (v := .ref 1) rfl ?_
                refine rb_getf (v := .ref 8) rfl ?_
                refine rb_iload rfl ?_
                refine rb_iload rfl ?_
                refine rb_iastL (xs' := [50, b, 50, 50, 50, 50, 50, 50, 50, 50, 50, 50, 50, 50, 50, 50, 50, 50, 50, 50, 50, 50, 50, 50]) rfl (by decide) (ok_lt s1_ok (c := 8) (n := 24) (by decide) rfl (by decide) (by decide)) rfl (wa_8 _ _) ?_
                refine rb_iload rfl ?_
                refine rb_ret rfl rfl
              case h2 =>
                apply ex_X9_want
                refine rn_step rfl ?_
                refine rb_iload rfl ?_
                refine rb_push ?_
                refine rb_push ?_
                apply rb_callS3
                case hcl => exact rfl
                case hc =>
                  apply ex_X9_in
                  refine rn_step rfl ?_
                  refine rb_iload rfl ?_
                  refine rb_iload rfl ?_
                  refine rb_clt (fun h => absurd h (by decide)) (fun _ => ?_)
                  refine rb_iload rfl ?_
                  refine rb_iload rfl ?_
                  refine rb_cgt (fun h => absurd h (by decide)) (fun _ => ?_)
                  refine rb_push ?_
                  refine rb_goto ?_
                  refine rn_step rfl ?_
                  refine rb_ret rfl rfl
                refine rb_ieq (fun h => absurd h (by decide)) (fun _ => ?_)
                refine rb_iload rfl ?_
                refine rb_push ?_
                refine rb_push ?_
                apply rb_callS3
                case hcl => exact rfl
                case hc =>
                  apply ex_X9_in
                  refine rn_step rfl ?_
                  refine rb_iload rfl ?_
                  refine rb_iload rfl ?_
                  refine rb_clt (fun h => absurd h (ia_nlt hlb (by decide))) (fun _ => ?_)
                  refine rb_iload rfl ?_
                  refine rb_iload rfl ?_
                  refine rb_cgt (fun h => absurd h (ia_ngt hhb (by decide))) (fun _ => ?_)
                  refine rb_push ?_
                  refine rb_goto ?_
                  refine rn_step rfl ?_
                  refine rb_ret rfl rfl
                refine rb_ieq (fun h => absurd h (by decide)) (fun _ => ?_)
                refine rb_aload rfl ?_
                refine rb_push ?_
                refine rb_iload rfl ?_
                refine rb_binL (z := 6) (by decide) ?_
                refine rb_iload rfl ?_
                apply rb_callV2
                case hb => exact rfl
                case hcl => exact rfl
                case hc =>
                  apply ex_X9_becomes
                  refine rn_step rfl ?_
                  refine rb_aload rfl ?_
                  refine rb_getf (v := .ref 69) rfl ?_
                  refine rb_iload rfl ?_
                  refine rb_iald rfl (by decide) (show _ = some (50) from rfl) ?_
                  refine rb_istore (lv' := [some (.ref 68), some (.int 6), some (.int (b)), some (.int 50)]) rfl ?_
                  refine rb_aload rfl ?_
                  refine rb_getf (v := .ref 69) rfl ?_
                  refine rb_iload rfl ?_
                  refine rb_iload rfl ?_
                  refine rb_iast rfl (by decide) (ok_lt (okA s1_ok (c := 8) (n := 24) (by decide) rfl (by decide) rfl) (c := 69) (n := 1461) (by decide) rfl (by decide) (by decide)) (wa_69 _ _) ?_
                  refine rb_iload rfl ?_
                  refine rb_ret rfl rfl
                refine rb_goto ?_
                refine rn_step rfl ?_
                refine rb_ret rfl rfl
              case h3 => exact (okL.sA (okA s1_ok (c := 8) (n := 24) (by decide) rfl (by decide) rfl) _ (List.length_set ..))
              case h4 => exact rfl
            ·
              rcases ia_cut (c := 3) hla hha with ⟨hla, hha⟩ | ⟨hla, hha⟩
              ·
                obtain rfl : a = 2 := ia_one hla hha (by decide) (by decide)
                apply p1_intro (v := 50)
                case h1 =>
                  apply ex_X8_want
                  refine rn_step rfl ?_
                  refine rb_iload rfl ?_
                  refine rb_push ?_
                  refine rb_push ?_
                  apply rb_callS3
                  case hcl => exact rfl
                  case hc =>
                    apply ex_X8_within
                    refine rn_step rfl ?_
                    refine rb_iload rfl ?_
                    refine rb_iload rfl ?_
                    refine rb_clt (fun h => absurd h (by decide)) (fun _ => ?_)
                    refine rb_iload rfl ?_
                    refine rb_iload rfl ?_
                    refine rb_cgt (fun h => absurd h (by decide)) (fun _ => ?_)
                    refine rb_push ?_
                    refine rb_goto ?_
                    refine rn_step rfl ?_
                    refine rb_ret rfl rfl
                  refine rb_ieq (fun h => absurd h (by decide)) (fun _ => ?_)
                  refine rb_iload rfl ?_
                  refine rb_push ?_
                  refine rb_push ?_
                  apply rb_callS3
                  case hcl => exact rfl
                  case hc =>
                    apply ex_X8_within
                    refine rn_step rfl ?_
                    refine rb_iload rfl ?_
                    refine rb_iload rfl ?_
                    refine rb_clt (fun h => absurd h (ia_nlt hlb (by decide))) (fun _ => ?_)
                    refine rb_iload rfl ?_
                    refine rb_iload rfl ?_
                    refine rb_cgt (fun h => absurd h (ia_ngt hhb (by decide))) (fun _ => ?_)
                    refine rb_push ?_
                    refine rb_goto ?_
                    refine rn_step rfl ?_
                    refine rb_ret rfl rfl
                  refine rb_ine (fun _ => ?_) (fun h => absurd (by decide) h)
                  refine rn_step rfl ?_
                  refine rb_aload rfl ?_
                  refine rb_getf (v := .ref 1) rfl ?_
                  refine rb_getf (v := .ref 8) rfl ?_
                  refine rb_iload rfl ?_
                  refine rb_iald rfl (by decide) (show _ = some (50) from rfl) ?_
                  refine rb_istore (lv' := [some (.ref 0), some (.int 2), some (.int (b)), some (.int 50)]) rfl ?_
                  refine rb_aload rfl ?_
                  refine rb_getf (v := .ref 1) rfl ?_
                  refine rb_getf (v := .ref 8) rfl ?_
                  refine rb_iload rfl ?_
                  refine rb_iload rfl ?_
                  refine rb_iastL (xs' := [50, 50, b, 50, 50, 50, 50, 50, 50, 50, 50, 50, 50, 50, 50, 50, 50, 50, 50, 50, 50, 50, 50, 50]) rfl (by decide) (ok_lt s1_ok (c := 8) (n := 24) (by decide) rfl (by decide) (by decide)) rfl (wa_8 _ _) ?_
                  refine rb_iload rfl ?_
                  refine rb_ret rfl rfl
                case h2 =>
                  apply ex_X9_want
                  refine rn_step rfl ?_
                  refine rb_iload rfl ?_
                  refine rb_push ?_
                  refine rb_push ?_
                  apply rb_callS3
                  case hcl => exact rfl
                  case hc =>
                    apply ex_X9_in
                    refine rn_step rfl ?_
                    refine rb_iload rfl ?_
                    refine rb_iload rfl ?_
                    refine rb_clt (fun h => absurd h (by decide)) (fun _ => ?_)
                    refine rb_iload rfl ?_
                    refine rb_iload rfl ?_
                    refine rb_cgt (fun h => absurd h (by decide)) (fun _ => ?_)
                    refine rb_push ?_
                    refine rb_goto ?_
                    refine rn_step rfl ?_
                    refine rb_ret rfl rfl
                  refine rb_ieq (fun h => absurd h (by decide)) (fun _ => ?_)
                  refine rb_iload rfl ?_
                  refine rb_push ?_
                  refine rb_push ?_
                  apply rb_callS3
                  case hcl => exact rfl
                  case hc =>
                    apply ex_X9_in
                    refine rn_step rfl ?_
                    refine rb_iload rfl ?_
                    refine rb_iload rfl ?_
                    refine rb_clt (fun h => absurd h (ia_nlt hlb (by decide))) (fun _ => ?_)
                    refine rb_iload rfl ?_
                    refine rb_iload rfl ?_
                    refine rb_cgt (fun h => absurd h (ia_ngt hhb (by decide))) (fun _ => ?_)
                    refine rb_push ?_
                    refine rb_goto ?_
                    refine rn_step rfl ?_
                    refine rb_ret rfl rfl
                  refine rb_ieq (fun h => absurd h (by decide)) (fun _ => ?_)
                  refine rb_aload rfl ?_
                  refine rb_push ?_
                  refine rb_iload rfl ?_
                  refine rb_binL (z := 7) (by decide) ?_
                  refine rb_iload rfl ?_
                  apply rb_callV2
                  case hb => exact rfl
                  case hcl => exact rfl
                  case hc =>
                    apply ex_X9_becomes
                    refine rn_step rfl ?_
                    refine rb_aload rfl ?_
                    refine rb_getf (v := .ref 69) rfl ?_
                    refine rb_iload rfl ?_
                    refine rb_iald rfl (by decide) (show _ = some (50) from rfl) ?_
                    refine rb_istore (lv' := [some (.ref 68), some (.int 7), some (.int (b)), some (.int 50)]) rfl ?_
                    refine rb_aload rfl ?_
                    refine rb_getf (v := .ref 69) rfl ?_
                    refine rb_iload rfl ?_
                    refine rb_iload rfl ?_
                    refine rb_iast rfl (by decide) (ok_lt (okA s1_ok (c := 8) (n := 24) (by decide) rfl (by decide) rfl) (c := 69) (n := 1461) (by decide) rfl (by decide) (by decide)) (wa_69 _ _) ?_
                    refine rb_iload rfl ?_
                    refine rb_ret rfl rfl
                  refine rb_goto ?_
                  refine rn_step rfl ?_
                  refine rb_ret rfl rfl
                case h3 => exact (okL.sA (okA s1_ok (c := 8) (n := 24) (by decide) rfl (by decide) rfl) _ (List.length_set ..))
                case h4 => exact rfl
              ·
                rcases ia_cut (c := 4) hla hha with ⟨hla, hha⟩ | ⟨hla, hha⟩
                ·
                  obtain rfl : a = 3 := ia_one hla hha (by decide) (by decide)
                  apply p1_intro (v := 50)
                  case h1 =>
                    apply ex_X8_want
                    refine rn_step rfl ?_
                    refine rb_iload rfl ?_
                    refine rb_push ?_
                    refine rb_push ?_
                    apply rb_callS3
                    case hcl => exact rfl
                    case hc =>
                      apply ex_X8_within
                      refine rn_step rfl ?_
                      refine rb_iload rfl ?_
                      refine rb_iload rfl ?_
                      refine rb_clt (fun h => absurd h (by decide)) (fun _ => ?_)
                      refine rb_iload rfl ?_
                      refine rb_iload rfl ?_
                      refine rb_cgt (fun h => absurd h (by decide)) (fun _ => ?_)
                      refine rb_push ?_
                      refine rb_goto ?_
                      refine rn_step rfl ?_
                      refine rb_ret rfl rfl
                    refine rb_ieq (fun h => absurd h (by decide)) (fun _ => ?_)
                    refine rb_iload rfl ?_
                    refine rb_push ?_
                    refine rb_push ?_
                    apply rb_callS3
                    case hcl => exact rfl
                    case hc =>
                      apply ex_X8_within
                      refine rn_step rfl ?_
                      refine rb_iload rfl ?_
                      refine rb_iload rfl ?_
                      refine rb_clt (fun h => absurd h (ia_nlt hlb (by decide))) (fun _ => ?_)
                      refine rb_iload rfl ?_
                      refine rb_iload rfl ?_
                      refine rb_cgt (fun h => absurd h (ia_ngt hhb (by decide))) (fun _ => ?_)
                      refine rb_push ?_
                      refine rb_goto ?_
                      refine rn_step rfl ?_
                      refine rb_ret rfl rfl
                    refine rb_ine (fun _ => ?_) (fun h => absurd (by decide) h)
                    refine rn_step rfl ?_
                    refine rb_aload rfl ?_
                    refine rb_getf (v := .ref 1) rfl ?_
                    refine rb_getf (v := .ref 8) rfl ?_
                    refine rb_iload rfl ?_
                    refine rb_iald rfl (by decide) (show _ = some (50) from rfl) ?_
                    refine rb_istore (lv' := [some (.ref 0), some (.int 3), some (.int (b)), some (.int 50)]) rfl ?_
                    refine rb_aload rfl ?_
                    refine rb_getf (v := .ref 1) rfl ?_
                    refine rb_getf (v := .ref 8) rfl ?_
                    refine rb_iload rfl ?_
                    refine rb_iload rfl ?_
                    refine rb_iastL (xs' := [50, 50, 50, b, 50, 50, 50, 50, 50, 50, 50, 50, 50, 50, 50, 50, 50, 50, 50, 50, 50, 50, 50, 50]) rfl (by decide) (ok_lt s1_ok (c := 8) (n := 24) (by decide) rfl (by decide) (by decide)) rfl (wa_8 _ _) ?_
                    refine rb_iload rfl ?_
                    refine rb_ret rfl rfl
                  case h2 =>
                    apply ex_X9_want
                    refine rn_step rfl ?_
                    refine rb_iload rfl ?_
                    refine rb_push ?_
                    refine rb_push ?_
                    apply rb_callS3
                    case hcl => exact rfl
                    case hc =>
                      apply ex_X9_in
                      refine rn_step rfl ?_
                      refine rb_iload rfl ?_
                      refine rb_iload rfl ?_
                      refine rb_clt (fun h => absurd h (by decide)) (fun _ => ?_)
                      refine rb_iload rfl ?_
                      refine rb_iload rfl ?_
                      refine rb_cgt (fun h => absurd h (by decide)) (fun _ => ?_)
                      refine rb_push ?_
                      refine rb_goto ?_
                      refine rn_step rfl ?_
                      refine rb_ret rfl rfl
                    refine rb_ieq (fun h => absurd h (by decide)) (fun _ => ?_)
                    refine rb_iload rfl ?_
                    refine rb_push ?_
                    refine rb_push ?_
                    apply rb_callS3
                    case hcl => exact rfl
                    case hc =>
                      apply ex_X9_in
                      refine rn_step rfl ?_
                      refine rb_iload rfl ?_
                      refine rb_iload rfl ?_
                      refine rb_clt (fun h => absurd h (ia_nlt hlb (by decide))) (fun _ => ?_)
                      refine rb_iload rfl ?_
                      refine rb_iload rfl ?_
                      refine rb_cgt (fun h => absurd h (ia_ngt hhb (by decide))) (fun _ => ?_)
                      refine rb_push ?_
                      refine rb_goto ?_
                      refine rn_step rfl ?_
                      refine rb_ret rfl rfl
                    refine rb_ieq (fun h => absurd h (by decide)) (fun _ => ?_)
                    refine rb_aload rfl ?_
                    refine rb_push ?_
                    refine rb_iload rfl ?_
                    refine rb_binL (z := 8) (by decide) ?_
                    refine rb_iload rfl ?_
                    apply rb_callV2
                    case hb => exact rfl
                    case hcl => exact rfl
                    case hc =>
                      apply ex_X9_becomes
                      refine rn_step rfl ?_
                      refine rb_aload rfl ?_
                      refine rb_getf (v := .ref 69) rfl ?_
                      refine rb_iload rfl ?_
                      refine rb_iald rfl (by decide) (show _ = some (50) from rfl) ?_
                      refine rb_istore (lv' := [some (.ref 68), some (.int 8), some (.int (b)), some (.int 50)]) rfl ?_
                      refine rb_aload rfl ?_
                      refine rb_getf (v := .ref 69) rfl ?_
                      refine rb_iload rfl ?_
                      refine rb_iload rfl ?_
                      refine rb_iast rfl (by decide) (ok_lt (okA s1_ok (c := 8) (n := 24) (by decide) rfl (by decide) rfl) (c := 69) (n := 1461) (by decide) rfl (by decide) (by decide)) (wa_69 _ _) ?_
                      refine rb_iload rfl ?_
                      refine rb_ret rfl rfl
                    refine rb_goto ?_
                    refine rn_step rfl ?_
                    refine rb_ret rfl rfl
                  case h3 => exact (okL.sA (okA s1_ok (c := 8) (n := 24) (by decide) rfl (by decide) rfl) _ (List.length_set ..))
                  case h4 => exact rfl
                ·
                  rcases ia_cut (c := 5) hla hha with ⟨hla, hha⟩ | ⟨hla, hha⟩
                  ·
                    obtain rfl : a = 4 := ia_one hla hha (by decide) (by decide)
                    apply p1_intro (v := 50)
                    case h1 =>
                      apply ex_X8_want
                      refine rn_step rfl ?_
                      refine rb_iload rfl ?_
                      refine rb_push ?_
                      refine rb_push ?_
                      apply rb_callS3
                      case hcl => exact rfl
                      case hc =>
                        apply ex_X8_within
                        refine rn_step rfl ?_
                        refine rb_iload rfl ?_
                        refine rb_iload rfl ?_
                        refine rb_clt (fun h => absurd h (by decide)) (fun _ => ?_)
                        refine rb_iload rfl ?_
                        refine rb_iload rfl ?_
                        refine rb_cgt (fun h => absurd h (by decide)) (fun _ => ?_)
                        refine rb_push ?_
                        refine rb_goto ?_
                        refine rn_step rfl ?_
                        refine rb_ret rfl rfl
                      refine rb_ieq (fun h => absurd h (by decide)) (fun _ => ?_)
                      refine rb_iload rfl ?_
                      refine rb_push ?_
                      refine rb_push ?_
                      apply rb_callS3
                      case hcl => exact rfl
                      case hc =>
                        apply ex_X8_within
                        refine rn_step rfl ?_
                        refine rb_iload rfl ?_
                        refine rb_iload rfl ?_
                        refine rb_clt (fun h => absurd h (ia_nlt hlb (by decide))) (fun _ => ?_)
                        refine rb_iload rfl ?_
                        refine rb_iload rfl ?_
                        refine rb_cgt (fun h => absurd h (ia_ngt hhb (by decide))) (fun _ => ?_)
                        refine rb_push ?_
                        refine rb_goto ?_
                        refine rn_step rfl ?_
                        refine rb_ret rfl rfl
                      refine rb_ine (fun _ => ?_) (fun h => absurd (by decide) h)
                      refine rn_step rfl ?_
                      refine rb_aload rfl ?_
                      refine rb_getf (v := .ref 1) rfl ?_
                      refine rb_getf (v := .ref 8) rfl ?_
                      refine rb_iload rfl ?_
                      refine rb_iald rfl (by decide) (show _ = some (50) from rfl) ?_
                      refine rb_istore (lv' := [some (.ref 0), some (.int 4), some (.int (b)), some (.int 50)]) rfl ?_
                      refine rb_aload rfl ?_
                      refine rb_getf (v := .ref 1) rfl ?_
                      refine rb_getf (v := .ref 8) rfl ?_
                      refine rb_iload rfl ?_
                      refine rb_iload rfl ?_
                      refine rb_iastL (xs' := [50, 50, 50, 50, b, 50, 50, 50, 50, 50, 50, 50, 50, 50, 50, 50, 50, 50, 50, 50, 50, 50, 50, 50]) rfl (by decide) (ok_lt s1_ok (c := 8) (n := 24) (by decide) rfl (by decide) (by decide)) rfl (wa_8 _ _) ?_
                      refine rb_iload rfl ?_
                      refine rb_ret rfl rfl
                    case h2 =>
                      apply ex_X9_want
                      refine rn_step rfl ?_
                      refine rb_iload rfl ?_
                      refine rb_push ?_
                      refine rb_push ?_
                      apply rb_callS3
                      case hcl => exact rfl
                      case hc =>
                        apply ex_X9_in
                        refine rn_step rfl ?_
                        refine rb_iload rfl ?_
                        refine rb_iload rfl ?_
                        refine rb_clt (fun h => absurd h (by decide)) (fun _ => ?_)
                        refine rb_iload rfl ?_
                        refine rb_iload rfl ?_
                        refine rb_cgt (fun h => absurd h (by decide)) (fun _ => ?_)
                        refine rb_push ?_
                        refine rb_goto ?_
                        refine rn_step rfl ?_
                        refine rb_ret rfl rfl
                      refine rb_ieq (fun h => absurd h (by decide)) (fun _ => ?_)
                      refine rb_iload rfl ?_
                      refine rb_push ?_
                      refine rb_push ?_
                      apply rb_callS3
                      case hcl => exact rfl
                      case hc =>
                        apply ex_X9_in
                        refine rn_step rfl ?_
                        refine rb_iload rfl ?_
                        refine rb_iload rfl ?_
                        refine rb_clt (fun h => absurd h (ia_nlt hlb (by decide))) (fun _ => ?_)
                        refine rb_iload rfl ?_
                        refine rb_iload rfl ?_
                        refine rb_cgt (fun h => absurd h (ia_ngt hhb (by decide))) (fun _ => ?_)
                        refine rb_push ?_
                        refine rb_goto ?_
                        refine rn_step rfl ?_
                        refine rb_ret rfl rfl
                      refine rb_ieq (fun h => absurd h (by decide)) (fun _ => ?_)
                      refine rb_aload rfl ?_
                      refine rb_push ?_
                      refine rb_iload rfl ?_
                      refine rb_binL (z := 9) (by decide) ?_
                      refine rb_iload rfl ?_
                      apply rb_callV2
                      case hb => exact rfl
                      case hcl => exact rfl
                      case hc =>
                        apply ex_X9_becomes
                        refine rn_step rfl ?_
                        refine rb_aload rfl ?_
                        refine rb_getf (v := .ref 69) rfl ?_
                        refine rb_iload rfl ?_
                        refine rb_iald rfl (by decide) (show _ = some (50) from rfl) ?_
                        refine rb_istore (lv' := [some (.ref 68), some (.int 9), some (.int (b)), some (.int 50)]) rfl ?_
                        refine rb_aload rfl ?_
                        refine rb_getf (v := .ref 69) rfl ?_
                        refine rb_iload rfl ?_
                        refine rb_iload rfl ?_
                        refine rb_iast rfl (by decide) (ok_lt (okA s1_ok (c := 8) (n := 24) (by decide) rfl (by decide) rfl) (c := 69) (n := 1461) (by decide) rfl (by decide) (by decide)) (wa_69 _ _) ?_
                        refine rb_iload rfl ?_
                        refine rb_ret rfl rfl
                      refine rb_goto ?_
                      refine rn_step rfl ?_
                      refine rb_ret rfl rfl
                    case h3 => exact (okL.sA (okA s1_ok (c := 8) (n := 24) (by decide) rfl (by decide) rfl) _ (List.length_set ..))
                    case h4 => exact rfl
                  ·
                    rcases ia_cut (c := 6) hla hha with ⟨hla, hha⟩ | ⟨hla, hha⟩
                    ·
                      obtain rfl : a = 5 := ia_one hla hha (by decide) (by decide)
                      apply p1_intro (v := 50)
                      case h1 =>
                        apply ex_X8_want
                        refine rn_step rfl ?_
                        refine rb_iload rfl ?_
                        refine rb_push ?_
                        refine rb_push ?_
                        apply rb_callS3
                        case hcl => exact rfl
                        case hc =>
                          apply ex_X8_within
                          refine rn_step rfl ?_
                          refine rb_iload rfl ?_
                          refine rb_iload rfl ?_
                          refine rb_clt (fun h => absurd h (by decide)) (fun _ => ?_)
                          refine rb_iload rfl ?_
                          refine rb_iload rfl ?_
                          refine rb_cgt (fun h => absurd h (by decide)) (fun _ => ?_)
                          refine rb_push ?_
                          refine rb_goto ?_
                          refine rn_step rfl ?_
                          refine rb_ret rfl rfl
                        refine rb_ieq (fun h => absurd h (by decide)) (fun _ => ?_)
                        refine rb_iload rfl ?_
                        refine rb_push ?_
                        refine rb_push ?_
                        apply rb_callS3
                        case hcl => exact rfl
                        case hc =>
                          apply ex_X8_within
                          refine rn_step rfl ?_
                          refine rb_iload rfl ?_
                          refine rb_iload rfl ?_
                          refine rb_clt (fun h => absurd h (ia_nlt hlb (by decide))) (fun _ => ?_)
                          refine rb_iload rfl ?_
                          refine rb_iload rfl ?_
                          refine rb_cgt (fun h => absurd h (ia_ngt hhb (by decide))) (fun _ => ?_)
                          refine rb_push ?_
                          refine rb_goto ?_
                          refine rn_step rfl ?_
                          refine rb_ret rfl rfl
                        refine rb_ine (fun _ => ?_) (fun h => absurd (by decide) h)
                        refine rn_step rfl ?_
                        refine rb_aload rfl ?_
                        refine rb_getf (v := .ref 1) rfl ?_
                        refine rb_getf (v := .ref 8) rfl ?_
                        refine rb_iload rfl ?_
                        refine rb_iald rfl (by decide) (show _ = some (50) from rfl) ?_
                        refine rb_istore (lv' := [some (.ref 0), some (.int 5), some (.int (b)), some (.int 50)]) rfl ?_
                        refine rb_aload rfl ?_
                        refine rb_getf (v := .ref 1) rfl ?_
                        refine rb_getf (v := .ref 8) rfl ?_
                        refine rb_iload rfl ?_
                        refine rb_iload rfl ?_
                        refine rb_iastL (xs' := [50, 50, 50, 50, 50, b, 50, 50, 50, 50, 50, 50, 50, 50, 50, 50, 50, 50, 50, 50, 50, 50, 50, 50]) rfl (by decide) (ok_lt s1_ok (c := 8) (n := 24) (by decide) rfl (by decide) (by decide)) rfl (wa_8 _ _) ?_
                        refine rb_iload rfl ?_
                        refine rb_ret rfl rfl
                      case h2 =>
                        apply ex_X9_want
                        refine rn_step rfl ?_
                        refine rb_iload rfl ?_
                        refine rb_push ?_
                        refine rb_push ?_
                        apply rb_callS3
                        case hcl => exact rfl
                        case hc =>
                          apply ex_X9_in
                          refine rn_step rfl ?_
                          refine rb_iload rfl ?_
                          refine rb_iload rfl ?_
                          refine rb_clt (fun h => absurd h (by decide)) (fun _ => ?_)
                          refine rb_iload rfl ?_
                          refine rb_iload rfl ?_
                          refine rb_cgt (fun h => absurd h (by decide)) (fun _ => ?_)
                          refine rb_push ?_
                          refine rb_goto ?_
                          refine rn_step rfl ?_
                          refine rb_ret rfl rfl
                        refine rb_ieq (fun h => absurd h (by decide)) (fun _ => ?_)
                        refine rb_iload rfl ?_
                        refine rb_push ?_
                        refine rb_push ?_
                        apply rb_callS3
                        case hcl => exact rfl
                        case hc =>
                          apply ex_X9_in
                          refine rn_step rfl ?_
                          refine rb_iload rfl ?_
                          refine rb_iload rfl ?_
                          refine rb_clt (fun h => absurd h (ia_nlt hlb (by decide))) (fun _ => ?_)
                          refine rb_iload rfl ?_
                          refine rb_iload rfl ?_
                          refine rb_cgt (fun h => absurd h (ia_ngt hhb (by decide))) (fun _ => ?_)
                          refine rb_push ?_
                          refine rb_goto ?_
                          refine rn_step rfl ?_
                          refine rb_ret rfl rfl
                        refine rb_ieq (fun h => absurd h (by decide)) (fun _ => ?_)
                        refine rb_aload rfl ?_
                        refine rb_push ?_
                        refine rb_iload rfl ?_
                        refine rb_binL (z := 10) (by decide) ?_
                        refine rb_iload rfl ?_
                        apply rb_callV2
                        case hb => exact rfl
                        case hcl => exact rfl
                        case hc =>
                          apply ex_X9_becomes
                          refine rn_step rfl ?_
                          refine rb_aload rfl ?_
                          refine rb_getf (v := .ref 69) rfl ?_
                          refine rb_iload rfl ?_
                          refine rb_iald rfl (by decide) (show _ = some (50) from rfl) ?_
                          refine rb_istore (lv' := [some (.ref 68), some (.int 10), some (.int (b)), some (.int 50)]) rfl ?_
                          refine rb_aload rfl ?_
                          refine rb_getf (v := .ref 69) rfl ?_
                          refine rb_iload rfl ?_
                          refine rb_iload rfl ?_
                          refine rb_iast rfl (by decide) (ok_lt (okA s1_ok (c := 8) (n := 24) (by decide) rfl (by decide) rfl) (c := 69) (n := 1461) (by decide) rfl (by decide) (by decide)) (wa_69 _ _) ?_
                          refine rb_iload rfl ?_
                          refine rb_ret rfl rfl
                        refine rb_goto ?_
                        refine rn_step rfl ?_
                        refine rb_ret rfl rfl
                      case h3 => exact (okL.sA (okA s1_ok (c := 8) (n := 24) (by decide) rfl (by decide) rfl) _ (List.length_set ..))
                      case h4 => exact rfl
                    ·
                      rcases ia_cut (c := 7) hla hha with ⟨hla, hha⟩ | ⟨hla, hha⟩
                      ·
                        obtain rfl : a = 6 := ia_one hla hha (by decide) (by decide)
                        apply p1_intro (v := 50)
                        case h1 =>
                          apply ex_X8_want
                          refine rn_step rfl ?_
                          refine rb_iload rfl ?_
                          refine rb_push ?_
                          refine rb_push ?_
                          apply rb_callS3
                          case hcl => exact rfl
                          case hc =>
                            apply ex_X8_within
                            refine rn_step rfl ?_
                            refine rb_iload rfl ?_
                            refine rb_iload rfl ?_
                            refine rb_clt (fun h => absurd h (by decide)) (fun _ => ?_)
                            refine rb_iload rfl ?_
                            refine rb_iload rfl ?_
                            refine rb_cgt (fun h => absurd h (by decide)) (fun _ => ?_)
                            refine rb_push ?_
                            refine rb_goto ?_
                            refine rn_step rfl ?_
                            refine rb_ret rfl rfl
                          refine rb_ieq (fun h => absurd h (by decide)) (fun _ => ?_)
                          refine rb_iload rfl ?_
                          refine rb_push ?_
                          refine rb_push ?_
                          apply rb_callS3
                          case hcl => exact rfl
                          case hc =>
                            apply ex_X8_within
                            refine rn_step rfl ?_
                            refine rb_iload rfl ?_
                            refine rb_iload rfl ?_
                            refine rb_clt (fun h => absurd h (ia_nlt hlb (by decide))) (fun _ => ?_)
                            refine rb_iload rfl ?_
                            refine rb_iload rfl ?_
                            refine rb_cgt (fun h => absurd h (ia_ngt hhb (by decide))) (fun _ => ?_)
                            refine rb_push ?_
                            refine rb_goto ?_
                            refine rn_step rfl ?_
                            refine rb_ret rfl rfl
                          refine rb_ine (fun _ => ?_) (fun h => absurd (by decide) h)
                          refine rn_step rfl ?_
                          refine rb_aload rfl ?_
                          refine rb_getf (v := .ref 1) rfl ?_
                          refine rb_getf (v := .ref 8) rfl ?_
                          refine rb_iload rfl ?_
                          refine rb_iald rfl (by decide) (show _ = some (50) from rfl) ?_
                          refine rb_istore (lv' := [some (.ref 0), some (.int 6), some (.int (b)), some (.int 50)]) rfl ?_
                          refine rb_aload rfl ?_
                          refine rb_getf (v := .ref 1) rfl ?_
                          refine rb_getf (v := .ref 8) rfl ?_
                          refine rb_iload rfl ?_
                          refine rb_iload rfl ?_
                          refine rb_iastL (xs' := [50, 50, 50, 50, 50, 50, b, 50, 50, 50, 50, 50, 50, 50, 50, 50, 50, 50, 50, 50, 50, 50, 50, 50]) rfl (by decide) (ok_lt s1_ok (c := 8) (n := 24) (by decide) rfl (by decide) (by decide)) rfl (wa_8 _ _) ?_
                          refine rb_iload rfl ?_
                          refine rb_ret rfl rfl
                        case h2 =>
                          apply ex_X9_want
                          refine rn_step rfl ?_
                          refine rb_iload rfl ?_
                          refine rb_push ?_
                          refine rb_push ?_
                          apply rb_callS3
                          case hcl => exact rfl
                          case hc =>
                            apply ex_X9_in
                            refine rn_step rfl ?_
                            refine rb_iload rfl ?_
                            refine rb_iload rfl ?_
                            refine rb_clt (fun h => absurd h (by decide)) (fun _ => ?_)
                            refine rb_iload rfl ?_
                            refine rb_iload rfl ?_
                            refine rb_cgt (fun h => absurd h (by decide)) (fun _ => ?_)
                            refine rb_push ?_
                            refine rb_goto ?_
                            refine rn_step rfl ?_
                            refine rb_ret rfl rfl
                          refine rb_ieq (fun h => absurd h (by decide)) (fun _ => ?_)
                          refine rb_iload rfl ?_
                          refine rb_push ?_
                          refine rb_push ?_
                          apply rb_callS3
                          case hcl => exact rfl
                          case hc =>
                            apply ex_X9_in
                            refine rn_step rfl ?_
                            refine rb_iload rfl ?_
                            refine rb_iload rfl ?_
                            refine rb_clt (fun h => absurd h (ia_nlt hlb (by decide))) (fun _ => ?_)
                            refine rb_iload rfl ?_
                            refine rb_iload rfl ?_
                            refine rb_cgt (fun h => absurd h (ia_ngt hhb (by decide))) (fun _ => ?_)
                            refine rb_push ?_
                            refine rb_goto ?_
                            refine rn_step rfl ?_
                            refine rb_ret rfl rfl
                          refine rb_ieq (fun h => absurd h (by decide)) (fun _ => ?_)
                          refine rb_aload rfl ?_
                          refine rb_push ?_
                          refine rb_iload rfl ?_
                          refine rb_binL (z := 11) (by decide) ?_
                          refine rb_iload rfl ?_
                          apply rb_callV2
                          case hb => exact rfl
                          case hcl => exact rfl
                          case hc =>
                            apply ex_X9_becomes
                            refine rn_step rfl ?_
                            refine rb_aload rfl ?_
                            refine rb_getf (v := .ref 69) rfl ?_
                            refine rb_iload rfl ?_
                            refine rb_iald rfl (by decide) (show _ = some (50) from rfl) ?_
                            refine rb_istore (lv' := [some (.ref 68), some (.int 11), some (.int (b)), some (.int 50)]) rfl ?_
                            refine rb_aload rfl ?_
                            refine rb_getf (v := .ref 69) rfl ?_
                            refine rb_iload rfl ?_
                            refine rb_iload rfl ?_
                            refine rb_iast rfl (by decide) (ok_lt (okA s1_ok (c := 8) (n := 24) (by decide) rfl (by decide) rfl) (c := 69) (n := 1461) (by decide) rfl (by decide) (by decide)) (wa_69 _ _) ?_
                            refine rb_iload rfl ?_
                            refine rb_ret rfl rfl
                          refine rb_goto ?_
                          refine rn_step rfl ?_
                          refine rb_ret rfl rfl
                        case h3 => exact (okL.sA (okA s1_ok (c := 8) (n := 24) (by decide) rfl (by decide) rfl) _ (List.length_set ..))
                        case h4 => exact rfl
                      ·
                        rcases ia_cut (c := 8) hla hha with ⟨hla, hha⟩ | ⟨hla, hha⟩
                        ·
                          obtain rfl : a = 7 := ia_one hla hha (by decide) (by decide)
                          apply p1_intro (v := 50)
                          case h1 =>
                            apply ex_X8_want
                            refine rn_step rfl ?_
                            refine rb_iload rfl ?_
                            refine rb_push ?_
                            refine rb_push ?_
                            apply rb_callS3
                            case hcl => exact rfl
                            case hc =>
                              apply ex_X8_within
                              refine rn_step rfl ?_
                              refine rb_iload rfl ?_
                              refine rb_iload rfl ?_
                              refine rb_clt (fun h => absurd h (by decide)) (fun _ => ?_)
                              refine rb_iload rfl ?_
                              refine rb_iload rfl ?_
                              refine rb_cgt (fun h => absurd h (by decide)) (fun _ => ?_)
                              refine rb_push ?_
                              refine rb_goto ?_
                              refine rn_step rfl ?_
                              refine rb_ret rfl rfl
                            refine rb_ieq (fun h => absurd h (by decide)) (fun _ => ?_)
                            refine rb_iload rfl ?_
                            refine rb_push ?_
                            refine rb_push ?_
                            apply rb_callS3
                            case hcl => exact rfl
                            case hc =>
                              apply ex_X8_within
                              refine rn_step rfl ?_
                              refine rb_iload rfl ?_
                              refine rb_iload rfl ?_
                              refine rb_clt (fun h => absurd h (ia_nlt hlb (by decide))) (fun _ => ?_)
                              refine rb_iload rfl ?_
                              refine rb_iload rfl ?_
                              refine rb_cgt (fun h => absurd h (ia_ngt hhb (by decide))) (fun _ => ?_)
                              refine rb_push ?_
                              refine rb_goto ?_
                              refine rn_step rfl ?_
                              refine rb_ret rfl rfl
                            refine rb_ine (fun _ => ?_) (fun h => absurd (by decide) h)
                            refine rn_step rfl ?_
                            refine rb_aload rfl ?_
                            refine rb_getf (v := .ref 1) rfl ?_
                            refine rb_getf (v := .ref 8) rfl ?_
                            refine rb_iload rfl ?_
                            refine rb_iald rfl (by decide) (show _ = some (50) from rfl) ?_
                            refine rb_istore (lv' := [some (.ref 0), some (.int 7), some (.int (b)), some (.int 50)]) rfl ?_
                            refine rb_aload rfl ?_
                            refine rb_getf (v := .ref 1) rfl ?_
                            refine rb_getf (v := .ref 8) rfl ?_
                            refine rb_iload rfl ?_
                            refine rb_iload rfl ?_
                            refine rb_iastL (xs' := [50, 50, 50, 50, 50, 50, 50, b, 50, 50, 50, 50, 50, 50, 50, 50, 50, 50, 50, 50, 50, 50, 50, 50]) rfl (by decide) (ok_lt s1_ok (c := 8) (n := 24) (by decide) rfl (by decide) (by decide)) rfl (wa_8 _ _) ?_
                            refine rb_iload rfl ?_
                            refine rb_ret rfl rfl
                          case h2 =>
                            apply ex_X9_want
                            refine rn_step rfl ?_
                            refine rb_iload rfl ?_
                            refine rb_push ?_
                            refine rb_push ?_
                            apply rb_callS3
                            case hcl => exact rfl
                            case hc =>
                              apply ex_X9_in
                              refine rn_step rfl ?_
                              refine rb_iload rfl ?_
                              refine rb_iload rfl ?_
                              refine rb_clt (fun h => absurd h (by decide)) (fun _ => ?_)
                              refine rb_iload rfl ?_
                              refine rb_iload rfl ?_
                              refine rb_cgt (fun h => absurd h (by decide)) (fun _ => ?_)
                              refine rb_push ?_
                              refine rb_goto ?_
                              refine rn_step rfl ?_
                              refine rb_ret rfl rfl
                            refine rb_ieq (fun h => absurd h (by decide)) (fun _ => ?_)
                            refine rb_iload rfl ?_
                            refine rb_push ?_
                            refine rb_push ?_
                            apply rb_callS3
                            case hcl => exact rfl
                            case hc =>
                              apply ex_X9_in
                              refine rn_step rfl ?_
                              refine rb_iload rfl ?_
                              refine rb_iload rfl ?_
                              refine rb_clt (fun h => absurd h (ia_nlt hlb (by decide))) (fun _ => ?_)
                              refine rb_iload rfl ?_
                              refine rb_iload rfl ?_
                              refine rb_cgt (fun h => absurd h (ia_ngt hhb (by decide))) (fun _ => ?_)
                              refine rb_push ?_
                              refine rb_goto ?_
                              refine rn_step rfl ?_
                              refine rb_ret rfl rfl
                            refine rb_ieq (fun h => absurd h (by decide)) (fun _ => ?_)
                            refine rb_aload rfl ?_
                            refine rb_push ?_
                            refine rb_iload rfl ?_
                            refine rb_binL (z := 12) (by decide) ?_
                            refine rb_iload rfl ?_
                            apply rb_callV2
                            case hb => exact rfl
                            case hcl => exact rfl
                            case hc =>
                              apply ex_X9_becomes
                              refine rn_step rfl ?_
                              refine rb_aload rfl ?_
                              refine rb_getf (v := .ref 69) rfl ?_
                              refine rb_iload rfl ?_
                              refine rb_iald rfl (by decide) (show _ = some (50) from rfl) ?_
                              refine rb_istore (lv' := [some (.ref 68), some (.int 12), some (.int (b)), some (.int 50)]) rfl ?_
                              refine rb_aload rfl ?_
                              refine rb_getf (v := .ref 69) rfl ?_
                              refine rb_iload rfl ?_
                              refine rb_iload rfl ?_
                              refine rb_iast rfl (by decide) (ok_lt (okA s1_ok (c := 8) (n := 24) (by decide) rfl (by decide) rfl) (c := 69) (n := 1461) (by decide) rfl (by decide) (by decide)) (wa_69 _ _) ?_
                              refine rb_iload rfl ?_
                              refine rb_ret rfl rfl
                            refine rb_goto ?_
                            refine rn_step rfl ?_
                            refine rb_ret rfl rfl
                          case h3 => exact (okL.sA (okA s1_ok (c := 8) (n := 24) (by decide) rfl (by decide) rfl) _ (List.length_set ..))
                          case h4 => exact rfl
                        ·
                          rcases ia_cut (c := 9) hla hha with ⟨hla, hha⟩ | ⟨hla, hha⟩
                          ·
                            obtain rfl : a = 8 := ia_one hla hha (by decide) (by decide)
                            apply p1_intro (v := 50)
                            case h1 =>
                              apply ex_X8_want
                              refine rn_step rfl ?_
                              refine rb_iload rfl ?_
                              refine rb_push ?_
                              refine rb_push ?_
                              apply rb_callS3
                              case hcl => exact rfl
                              case hc =>
                                apply ex_X8_within
                                refine rn_step rfl ?_
                                refine rb_iload rfl ?_
                                refine rb_iload rfl ?_
                                refine rb_clt (fun h => absurd h (by decide)) (fun _ => ?_)
                                refine rb_iload rfl ?_
                                refine rb_iload rfl ?_
                                refine rb_cgt (fun h => absurd h (by decide)) (fun _ => ?_)
                                refine rb_push ?_
                                refine rb_goto ?_
                                refine rn_step rfl ?_
                                refine rb_ret rfl rfl
                              refine rb_ieq (fun h => absurd h (by decide)) (fun _ => ?_)
                              refine rb_iload rfl ?_
                              refine rb_push ?_
                              refine rb_push ?_
                              apply rb_callS3
                              case hcl => exact rfl
                              case hc =>
                                apply ex_X8_within
                                refine rn_step rfl ?_
                                refine rb_iload rfl ?_
                                refine rb_iload rfl ?_
                                refine rb_clt (fun h => absurd h (ia_nlt hlb (by decide))) (fun _ => ?_)
                                refine rb_iload rfl ?_
                                refine rb_iload rfl ?_
                                refine rb_cgt (fun h => absurd h (ia_ngt hhb (by decide))) (fun _ => ?_)
                                refine rb_push ?_
                                refine rb_goto ?_
                                refine rn_step rfl ?_
                                refine rb_ret rfl rfl
                              refine rb_ine (fun _ => ?_) (fun h => absurd (by decide) h)
                              refine rn_step rfl ?_
                              refine rb_aload rfl ?_
                              refine rb_getf (v := .ref 1) rfl ?_
                              refine rb_getf (v := .ref 8) rfl ?_
                              refine rb_iload rfl ?_
                              refine rb_iald rfl (by decide) (show _ = some (50) from rfl) ?_
                              refine rb_istore (lv' := [some (.ref 0), some (.int 8), some (.int (b)), some (.int 50)]) rfl ?_
                              refine rb_aload rfl ?_
                              refine rb_getf (v := .ref 1) rfl ?_
                              refine rb_getf (v := .ref 8) rfl ?_
                              refine rb_iload rfl ?_
                              refine rb_iload rfl ?_
                              refine rb_iastL (xs' := [50, 50, 50, 50, 50, 50, 50, 50, b, 50, 50, 50, 50, 50, 50, 50, 50, 50, 50, 50, 50, 50, 50, 50]) rfl (by decide) (ok_lt s1_ok (c := 8) (n := 24) (by decide) rfl (by decide) (by decide)) rfl (wa_8 _ _) ?_
                              refine rb_iload rfl ?_
                              refine rb_ret rfl rfl
                            case h2 =>
                              apply ex_X9_want
                              refine rn_step rfl ?_
                              refine rb_iload rfl ?_
                              refine rb_push ?_
                              refine rb_push ?_
                              apply rb_callS3
                              case hcl => exact rfl
                              case hc =>
                                apply ex_X9_in
                                refine rn_step rfl ?_
                                refine rb_iload rfl ?_
                                refine rb_iload rfl ?_
                                refine rb_clt (fun h => absurd h (by decide)) (fun _ => ?_)
                                refine rb_iload rfl ?_
                                refine rb_iload rfl ?_
                                refine rb_cgt (fun h => absurd h (by decide)) (fun _ => ?_)
                                refine rb_push ?_
                                refine rb_goto ?_
                                refine rn_step rfl ?_
                                refine rb_ret rfl rfl
                              refine rb_ieq (fun h => absurd h (by decide)) (fun _ => ?_)
                              refine rb_iload rfl ?_
                              refine rb_push ?_
                              refine rb_push ?_
                              apply rb_callS3
                              case hcl => exact rfl
                              case hc =>
                                apply ex_X9_in
                                refine rn_step rfl ?_
                                refine rb_iload rfl ?_
                                refine rb_iload rfl ?_
                                refine rb_clt (fun h => absurd h (ia_nlt hlb (by decide))) (fun _ => ?_)
                                refine rb_iload rfl ?_
                                refine rb_iload rfl ?_
                                refine rb_cgt (fun h => absurd h (ia_ngt hhb (by decide))) (fun _ => ?_)
                                refine rb_push ?_
                                refine rb_goto ?_
                                refine rn_step rfl ?_
                                refine rb_ret rfl rfl
                              refine rb_ieq (fun h => absurd h (by decide)) (fun _ => ?_)
                              refine rb_aload rfl ?_
                              refine rb_push ?_
                              refine rb_iload rfl ?_
                              refine rb_binL (z := 13) (by decide) ?_
                              refine rb_iload rfl ?_
                              apply rb_callV2
                              case hb => exact rfl
                              case hcl => exact rfl
                              case hc =>
                                apply ex_X9_becomes
                                refine rn_step rfl ?_
                                refine rb_aload rfl ?_
                                refine rb_getf (v := .ref 69) rfl ?_
                                refine rb_iload rfl ?_
                                refine rb_iald rfl (by decide) (show _ = some (50) from rfl) ?_
                                refine rb_istore (lv' := [some (.ref 68), some (.int 13), some (.int (b)), some (.int 50)]) rfl ?_
                                refine rb_aload rfl ?_
                                refine rb_getf (v := .ref 69) rfl ?_
                                refine rb_iload rfl ?_
                                refine rb_iload rfl ?_
                                refine rb_iast rfl (by decide) (ok_lt (okA s1_ok (c := 8) (n := 24) (by decide) rfl (by decide) rfl) (c := 69) (n := 1461) (by decide) rfl (by decide) (by decide)) (wa_69 _ _) ?_
                                refine rb_iload rfl ?_
                                refine rb_ret rfl rfl
                              refine rb_goto ?_
                              refine rn_step rfl ?_
                              refine rb_ret rfl rfl
                            case h3 => exact (okL.sA (okA s1_ok (c := 8) (n := 24) (by decide) rfl (by decide) rfl) _ (List.length_set ..))
                            case h4 => exact rfl
                          ·
                            rcases ia_cut (c := 10) hla hha with ⟨hla, hha⟩ | ⟨hla, hha⟩
                            ·
                              obtain rfl : a = 9 := ia_one hla hha (by decide) (by decide)
                              apply p1_intro (v := 50)
                              case h1 =>
                                apply ex_X8_want
                                refine rn_step rfl ?_
                                refine rb_iload rfl ?_
                                refine rb_push ?_
                                refine rb_push ?_
                                apply rb_callS3
                                case hcl => exact rfl
                                case hc =>
                                  apply ex_X8_within
                                  refine rn_step rfl ?_
                                  refine rb_iload rfl ?_
                                  refine rb_iload rfl ?_
                                  refine rb_clt (fun h => absurd h (by decide)) (fun _ => ?_)
                                  refine rb_iload rfl ?_
                                  refine rb_iload rfl ?_
                                  refine rb_cgt (fun h => absurd h (by decide)) (fun _ => ?_)
                                  refine rb_push ?_
                                  refine rb_goto ?_
                                  refine rn_step rfl ?_
                                  refine rb_ret rfl rfl
                                refine rb_ieq (fun h => absurd h (by decide)) (fun _ => ?_)
                                refine rb_iload rfl ?_
                                refine rb_push ?_
                                refine rb_push ?_
                                apply rb_callS3
                                case hcl => exact rfl
                                case hc =>
                                  apply ex_X8_within
                                  refine rn_step rfl ?_
                                  refine rb_iload rfl ?_
                                  refine rb_iload rfl ?_
                                  refine rb_clt (fun h => absurd h (ia_nlt hlb (by decide))) (fun _ => ?_)
                                  refine rb_iload rfl ?_
                                  refine rb_iload rfl ?_
                                  refine rb_cgt (fun h => absurd h (ia_ngt hhb (by decide))) (fun _ => ?_)
                                  refine rb_push ?_
                                  refine rb_goto ?_
                                  refine rn_step rfl ?_
                                  refine rb_ret rfl rfl
                                refine rb_ine (fun _ => ?_) (fun h => absurd (by decide) h)
                                refine rn_step rfl ?_
                                refine rb_aload rfl ?_
                                refine rb_getf (v := .ref 1) rfl ?_
                                refine rb_getf (v := .ref 8) rfl ?_
                                refine rb_iload rfl ?_
                                refine rb_iald rfl (by decide) (show _ = some (50) from rfl) ?_
                                refine rb_istore (lv' := [some (.ref 0), some (.int 9), some (.int (b)), some (.int 50)]) rfl ?_
                                refine rb_aload rfl ?_
                                refine rb_getf (v := .ref 1) rfl ?_
                                refine rb_getf (v := .ref 8) rfl ?_
                                refine rb_iload rfl ?_
                                refine rb_iload rfl ?_
                                refine rb_iastL (xs' := [50, 50, 50, 50, 50, 50, 50, 50, 50, b, 50, 50, 50, 50, 50, 50, 50, 50, 50, 50, 50, 50, 50, 50]) rfl (by decide) (ok_lt s1_ok (c := 8) (n := 24) (by decide) rfl (by decide) (by decide)) rfl (wa_8 _ _) ?_
                                refine rb_iload rfl ?_
                                refine rb_ret rfl rfl
                              case h2 =>
                                apply ex_X9_want
                                refine rn_step rfl ?_
                                refine rb_iload rfl ?_
                                refine rb_push ?_
                                refine rb_push ?_
                                apply rb_callS3
                                case hcl => exact rfl
                                case hc =>
                                  apply ex_X9_in
                                  refine rn_step rfl ?_
                                  refine rb_iload rfl ?_
                                  refine rb_iload rfl ?_
                                  refine rb_clt (fun h => absurd h (by decide)) (fun _ => ?_)
                                  refine rb_iload rfl ?_
                                  refine rb_iload rfl ?_
                                  refine rb_cgt (fun h => absurd h (by decide)) (fun _ => ?_)
                                  refine rb_push ?_
                                  refine rb_goto ?_
                                  refine rn_step rfl ?_
                                  refine rb_ret rfl rfl
                                refine rb_ieq (fun h => absurd h (by decide)) (fun _ => ?_)
                                refine rb_iload rfl ?_
                                refine rb_push ?_
                                refine rb_push ?_
                                apply rb_callS3
                                case hcl => exact rfl
                                case hc =>
                                  apply ex_X9_in
                                  refine rn_step rfl ?_
                                  refine rb_iload rfl ?_
                                  refine rb_iload rfl ?_
                                  refine rb_clt (fun h => absurd h (ia_nlt hlb (by decide))) (fun _ => ?_)
                                  refine rb_iload rfl ?_
                                  refine rb_iload rfl ?_
                                  refine rb_cgt (fun h => absurd h (ia_ngt hhb (by decide))) (fun _ => ?_)
                                  refine rb_push ?_
                                  refine rb_goto ?_
                                  refine rn_step rfl ?_
                                  refine rb_ret rfl rfl
                                refine rb_ieq (fun h => absurd h (by decide)) (fun _ => ?_)
                                refine rb_aload rfl ?_
                                refine rb_push ?_
                                refine rb_iload rfl ?_
                                refine rb_binL (z := 14) (by decide) ?_
                                refine rb_iload rfl ?_
                                apply rb_callV2
                                case hb => exact rfl
                                case hcl => exact rfl
                                case hc =>
                                  apply ex_X9_becomes
                                  refine rn_step rfl ?_
                                  refine rb_aload rfl ?_
                                  refine rb_getf (v := .ref 69) rfl ?_
                                  refine rb_iload rfl ?_
                                  refine rb_iald rfl (by decide) (show _ = some (50) from rfl) ?_
                                  refine rb_istore (lv' := [some (.ref 68), some (.int 14), some (.int (b)), some (.int 50)]) rfl ?_
                                  refine rb_aload rfl ?_
                                  refine rb_getf (v := .ref 69) rfl ?_
                                  refine rb_iload rfl ?_
                                  refine rb_iload rfl ?_
                                  refine rb_iast rfl (by decide) (ok_lt (okA s1_ok (c := 8) (n := 24) (by decide) rfl (by decide) rfl) (c := 69) (n := 1461) (by decide) rfl (by decide) (by decide)) (wa_69 _ _) ?_
                                  refine rb_iload rfl ?_
                                  refine rb_ret rfl rfl
                                refine rb_goto ?_
                                refine rn_step rfl ?_
                                refine rb_ret rfl rfl
                              case h3 => exact (okL.sA (okA s1_ok (c := 8) (n := 24) (by decide) rfl (by decide) rfl) _ (List.length_set ..))
                              case h4 => exact rfl
                            ·
                              rcases ia_cut (c := 11) hla hha with ⟨hla, hha⟩ | ⟨hla, hha⟩
                              ·
                                obtain rfl : a = 10 := ia_one hla hha (by decide) (by decide)
                                apply p1_intro (v := 50)
                                case h1 =>
                                  apply ex_X8_want
                                  refine rn_step rfl ?_
                                  refine rb_iload rfl ?_
                                  refine rb_push ?_
                                  refine rb_push ?_
                                  apply rb_callS3
                                  case hcl => exact rfl
                                  case hc =>
                                    apply ex_X8_within
                                    refine rn_step rfl ?_
                                    refine rb_iload rfl ?_
                                    refine rb_iload rfl ?_
                                    refine rb_clt (fun h => absurd h (by decide)) (fun _ => ?_)
                                    refine rb_iload rfl ?_
                                    refine rb_iload rfl ?_
                                    refine rb_cgt (fun h => absurd h (by decide)) (fun _ => ?_)
                                    refine rb_push ?_
                                    refine rb_goto ?_
                                    refine rn_step rfl ?_
                                    refine rb_ret rfl rfl
                                  refine rb_ieq (fun h => absurd h (by decide)) (fun _ => ?_)
                                  refine rb_iload rfl ?_
                                  refine rb_push ?_
                                  refine rb_push ?_
                                  apply rb_callS3
                                  case hcl => exact rfl
                                  case hc =>
                                    apply ex_X8_within
                                    refine rn_step rfl ?_
                                    refine rb_iload rfl ?_
                                    refine rb_iload rfl ?_
                                    refine rb_clt (fun h => absurd h (ia_nlt hlb (by decide))) (fun _ => ?_)
                                    refine rb_iload rfl ?_
                                    refine rb_iload rfl ?_
                                    refine rb_cgt (fun h => absurd h (ia_ngt hhb (by decide))) (fun _ => ?_)
                                    refine rb_push ?_
                                    refine rb_goto ?_
                                    refine rn_step rfl ?_
                                    refine rb_ret rfl rfl
                                  refine rb_ine (fun _ => ?_) (fun h => absurd (by decide) h)
                                  refine rn_step rfl ?_
                                  refine rb_aload rfl ?_
                                  refine rb_getf (v := .ref 1) rfl ?_
                                  refine rb_getf (v := .ref 8) rfl ?_
                                  refine rb_iload rfl ?_
                                  refine rb_iald rfl (by decide) (show _ = some (50) from rfl) ?_
                                  refine rb_istore (lv' := [some (.ref 0), some (.int 10), some (.int (b)), some (.int 50)]) rfl ?_
                                  refine rb_aload rfl ?_
                                  refine rb_getf (v := .ref 1) rfl ?_
                                  refine rb_getf (v := .ref 8) rfl ?_
                                  refine rb_iload rfl ?_
                                  refine rb_iload rfl ?_
                                  refine rb_iastL (xs' := [50, 50, 50, 50, 50, 50, 50, 50, 50, 50, b, 50, 50, 50, 50, 50, 50, 50, 50, 50, 50, 50, 50, 50]) rfl (by decide) (ok_lt s1_ok (c := 8) (n := 24) (by decide) rfl (by decide) (by decide)) rfl (wa_8 _ _) ?_
                                  refine rb_iload rfl ?_
                                  refine rb_ret rfl rfl
                                case h2 =>
                                  apply ex_X9_want
                                  refine rn_step rfl ?_
                                  refine rb_iload rfl ?_
                                  refine rb_push ?_
                                  refine rb_push ?_
                                  apply rb_callS3
                                  case hcl => exact rfl
                                  case hc =>
                                    apply ex_X9_in
                                    refine rn_step rfl ?_
                                    refine rb_iload rfl ?_
                                    refine rb_iload rfl ?_
                                    refine rb_clt (fun h => absurd h (by decide)) (fun _ => ?_)
                                    refine rb_iload rfl ?_
                                    refine rb_iload rfl ?_
                                    refine rb_cgt (fun h => absurd h (by decide)) (fun _ => ?_)
                                    refine rb_push ?_
                                    refine rb_goto ?_
                                    refine rn_step rfl ?_
                                    refine rb_ret rfl rfl
                                  refine rb_ieq (fun h => absurd h (by decide)) (fun _ => ?_)
                                  refine rb_iload rfl ?_
                                  refine rb_push ?_
                                  refine rb_push ?_
                                  apply rb_callS3
                                  case hcl => exact rfl
                                  case hc =>
                                    apply ex_X9_in
                                    refine rn_step rfl ?_
                                    refine rb_iload rfl ?_
                                    refine rb_iload rfl ?_
                                    refine rb_clt (fun h => absurd h (ia_nlt hlb (by decide))) (fun _ => ?_)
                                    refine rb_iload rfl ?_
                                    refine rb_iload rfl ?_
                                    refine rb_cgt (fun h => absurd h (ia_ngt hhb (by decide))) (fun _ => ?_)
                                    refine rb_push ?_
                                    refine rb_goto ?_
                                    refine rn_step rfl ?_
                                    refine rb_ret rfl rfl
                                  refine rb_ieq (fun h => absurd h (by decide)) (fun _ => ?_)
                                  refine rb_aload rfl ?_
                                  refine rb_push ?_
                                  refine rb_iload rfl ?_
                                  refine rb_binL (z := 15) (by decide) ?_
                                  refine rb_iload rfl ?_
                                  apply rb_callV2
                                  case hb => exact rfl
                                  case hcl => exact rfl
                                  case hc =>
                                    apply ex_X9_becomes
                                    refine rn_step rfl ?_
                                    refine rb_aload rfl ?_
                                    refine rb_getf (v := .ref 69) rfl ?_
                                    refine rb_iload rfl ?_
                                    refine rb_iald rfl (by decide) (show _ = some (50) from rfl) ?_
                                    refine rb_istore (lv' := [some (.ref 68), some (.int 15), some (.int (b)), some (.int 50)]) rfl ?_
                                    refine rb_aload rfl ?_
                                    refine rb_getf (v := .ref 69) rfl ?_
                                    refine rb_iload rfl ?_
                                    refine rb_iload rfl ?_
                                    refine rb_iast rfl (by decide) (ok_lt (okA s1_ok (c := 8) (n := 24) (by decide) rfl (by decide) rfl) (c := 69) (n := 1461) (by decide) rfl (by decide) (by decide)) (wa_69 _ _) ?_
                                    refine rb_iload rfl ?_
                                    refine rb_ret rfl rfl
                                  refine rb_goto ?_
                                  refine rn_step rfl ?_
                                  refine rb_ret rfl rfl
                                case h3 => exact (okL.sA (okA s1_ok (c := 8) (n := 24) (by decide) rfl (by decide) rfl) _ (List.length_set ..))
                                case h4 => exact rfl
                              ·
                                rcases ia_cut (c := 12) hla hha with ⟨hla, hha⟩ | ⟨hla, hha⟩
                                ·
                                  obtain rfl : a = 11 := ia_one hla hha (by decide) (by decide)
                                  apply p1_intro (v := 50)
                                  case h1 =>
                                    apply ex_X8_want
                                    refine rn_step rfl ?_
                                    refine rb_iload rfl ?_
                                    refine rb_push ?_
                                    refine rb_push ?_
                                    apply rb_callS3
                                    case hcl => exact rfl
                                    case hc =>
                                      apply ex_X8_within
                                      refine rn_step rfl ?_
                                      refine rb_iload rfl ?_
                                      refine rb_iload rfl ?_
                                      refine rb_clt (fun h => absurd h (by decide)) (fun _ => ?_)
                                      refine rb_iload rfl ?_
                                      refine rb_iload rfl ?_
                                      refine rb_cgt (fun h => absurd h (by decide)) (fun _ => ?_)
                                      refine rb_push ?_
                                      refine rb_goto ?_
                                      refine rn_step rfl ?_
                                      refine rb_ret rfl rfl
                                    refine rb_ieq (fun h => absurd h (by decide)) (fun _ => ?_)
                                    refine rb_iload rfl ?_
                                    refine rb_push ?_
                                    refine rb_push ?_
                                    apply rb_callS3
                                    case hcl => exact rfl
                                    case hc =>
                                      apply ex_X8_within
                                      refine rn_step rfl ?_
                                      refine rb_iload rfl ?_
                                      refine rb_iload rfl ?_
                                      refine rb_clt (fun h => absurd h (ia_nlt hlb (by decide))) (fun _ => ?_)
                                      refine rb_iload rfl ?_
                                      refine rb_iload rfl ?_
                                      refine rb_cgt (fun h => absurd h (ia_ngt hhb (by decide))) (fun _ => ?_)
                                      refine rb_push ?_
                                      refine rb_goto ?_
                                      refine rn_step rfl ?_
                                      refine rb_ret rfl rfl
                                    refine rb_ine (fun _ => ?_) (fun h => absurd (by decide) h)
                                    refine rn_step rfl ?_
                                    refine rb_aload rfl ?_
                                    refine rb_getf (v := .ref 1) rfl ?_
                                    refine rb_getf (v := .ref 8) rfl ?_
                                    refine rb_iload rfl ?_
                                    refine rb_iald rfl (by decide) (show _ = some (50) from rfl) ?_
                                    refine rb_istore (lv' := [some (.ref 0), some (.int 11), some (.int (b)), some (.int 50)]) rfl ?_
                                    refine rb_aload rfl ?_
                                    refine rb_getf (v := .ref 1) rfl ?_
                                    refine rb_getf (v := .ref 8) rfl ?_
                                    refine rb_iload rfl ?_
                                    refine rb_iload rfl ?_
                                    refine rb_iastL (xs' := [50, 50, 50, 50, 50, 50, 50, 50, 50, 50, 50, b, 50, 50, 50, 50, 50, 50, 50, 50, 50, 50, 50, 50]) rfl (by decide) (ok_lt s1_ok (c := 8) (n := 24) (by decide) rfl (by decide) (by decide)) rfl (wa_8 _ _) ?_
                                    refine rb_iload rfl ?_
                                    refine rb_ret rfl rfl
                                  case h2 =>
                                    apply ex_X9_want
                                    refine rn_step rfl ?_
                                    refine rb_iload rfl ?_
                                    refine rb_push ?_
                                    refine rb_push ?_
                                    apply rb_callS3
                                    case hcl => exact rfl
                                    case hc =>
                                      apply ex_X9_in
                                      refine rn_step rfl ?_
                                      refine rb_iload rfl ?_
                                      refine rb_iload rfl ?_
                                      refine rb_clt (fun h => absurd h (by decide)) (fun _ => ?_)
                                      refine rb_iload rfl ?_
                                      refine rb_iload rfl ?_
                                      refine rb_cgt (fun h => absurd h (by decide)) (fun _ => ?_)
                                      refine rb_push ?_
                                      refine rb_goto ?_
                                      refine rn_step rfl ?_
                                      refine rb_ret rfl rfl
                                    refine rb_ieq (fun h => absurd h (by decide)) (fun _ => ?_)
                                    refine rb_iload rfl ?_
                                    refine rb_push ?_
                                    refine rb_push ?_
                                    apply rb_callS3
                                    case hcl => exact rfl
                                    case hc =>
                                      apply ex_X9_in
                                      refine rn_step rfl ?_
                                      refine rb_iload rfl ?_
                                      refine rb_iload rfl ?_
                                      refine rb_clt (fun h => absurd h (ia_nlt hlb (by decide))) (fun _ => ?_)
                                      refine rb_iload rfl ?_
                                      refine rb_iload rfl ?_
                                      refine rb_cgt (fun h => absurd h (ia_ngt hhb (by decide))) (fun _ => ?_)
                                      refine rb_push ?_
                                      refine rb_goto ?_
                                      refine rn_step rfl ?_
                                      refine rb_ret rfl rfl
                                    refine rb_ieq (fun h => absurd h (by decide)) (fun _ => ?_)
                                    refine rb_aload rfl ?_
                                    refine rb_push ?_
                                    refine rb_iload rfl ?_
                                    refine rb_binL (z := 16) (by decide) ?_
                                    refine rb_iload rfl ?_
                                    apply rb_callV2
                                    case hb => exact rfl
                                    case hcl => exact rfl
                                    case hc =>
                                      apply ex_X9_becomes
                                      refine rn_step rfl ?_
                                      refine rb_aload rfl ?_
                                      refine rb_getf (v := .ref 69) rfl ?_
                                      refine rb_iload rfl ?_
                                      refine rb_iald rfl (by decide) (show _ = some (50) from rfl) ?_
                                      refine rb_istore (lv' := [some (.ref 68), some (.int 16), some (.int (b)), some (.int 50)]) rfl ?_
                                      refine rb_aload rfl ?_
                                      refine rb_getf (v := .ref 69) rfl ?_
                                      refine rb_iload rfl ?_
                                      refine rb_iload rfl ?_
                                      refine rb_iast rfl (by decide) (ok_lt (okA s1_ok (c := 8) (n := 24) (by decide) rfl (by decide) rfl) (c := 69) (n := 1461) (by decide) rfl (by decide) (by decide)) (wa_69 _ _) ?_
                                      refine rb_iload rfl ?_
                                      refine rb_ret rfl rfl
                                    refine rb_goto ?_
                                    refine rn_step rfl ?_
                                    refine rb_ret rfl rfl
                                  case h3 => exact (okL.sA (okA s1_ok (c := 8) (n := 24) (by decide) rfl (by decide) rfl) _ (List.length_set ..))
                                  case h4 => exact rfl
                                ·
                                  rcases ia_cut (c := 13) hla hha with ⟨hla, hha⟩ | ⟨hla, hha⟩
                                  ·
                                    obtain rfl : a = 12 := ia_one hla hha (by decide) (by decide)
                                    apply p1_intro (v := 50)
                                    case h1 =>
                                      apply ex_X8_want
                                      refine rn_step rfl ?_
                                      refine rb_iload rfl ?_
                                      refine rb_push ?_
                                      refine rb_push ?_
                                      apply rb_callS3
                                      case hcl => exact rfl
                                      case hc =>
                                        apply ex_X8_within
                                        refine rn_step rfl ?_
                                        refine rb_iload rfl ?_
                                        refine rb_iload rfl ?_
                                        refine rb_clt (fun h => absurd h (by decide)) (fun _ => ?_)
                                        refine rb_iload rfl ?_
                                        refine rb_iload rfl ?_
                                        refine rb_cgt (fun h => absurd h (by decide)) (fun _ => ?_)
                                        refine rb_push ?_
                                        refine rb_goto ?_
                                        refine rn_step rfl ?_
                                        refine rb_ret rfl rfl
                                      refine rb_ieq (fun h => absurd h (by decide)) (fun _ => ?_)
                                      refine rb_iload rfl ?_
                                      refine rb_push ?_
                                      refine rb_push ?_
                                      apply rb_callS3
                                      case hcl => exact rfl
                                      case hc =>
                                        apply ex_X8_within
                                        refine rn_step rfl ?_
                                        refine rb_iload rfl ?_
                                        refine rb_iload rfl ?_
                                        refine rb_clt (fun h => absurd h (ia_nlt hlb (by decide))) (fun _ => ?_)
                                        refine rb_iload rfl ?_
                                        refine rb_iload rfl ?_
                                        refine rb_cgt (fun h => absurd h (ia_ngt hhb (by decide))) (fun _ => ?_)
                                        refine rb_push ?_
                                        refine rb_goto ?_
                                        refine rn_step rfl ?_
                                        refine rb_ret rfl rfl
                                      refine rb_ine (fun _ => ?_) (fun h => absurd (by decide) h)
                                      refine rn_step rfl ?_
                                      refine rb_aload rfl ?_
                                      refine rb_getf (v := .ref 1) rfl ?_
                                      refine rb_getf (v := .ref 8) rfl ?_
                                      refine rb_iload rfl ?_
                                      refine rb_iald rfl (by decide) (show _ = some (50) from rfl) ?_
                                      refine rb_istore (lv' := [some (.ref 0), some (.int 12), some (.int (b)), some (.int 50)]) rfl ?_
                                      refine rb_aload rfl ?_
                                      refine rb_getf (v := .ref 1) rfl ?_
                                      refine rb_getf (v := .ref 8) rfl ?_
                                      refine rb_iload rfl ?_
                                      refine rb_iload rfl ?_
                                      refine rb_iastL (xs' := [50, 50, 50, 50, 50, 50, 50, 50, 50, 50, 50, 50, b, 50, 50, 50, 50, 50, 50, 50, 50, 50, 50, 50]) rfl (by decide) (ok_lt s1_ok (c := 8) (n := 24) (by decide) rfl (by decide) (by decide)) rfl (wa_8 _ _) ?_
                                      refine rb_iload rfl ?_
                                      refine rb_ret rfl rfl
                                    case h2 =>
                                      apply ex_X9_want
                                      refine rn_step rfl ?_
                                      refine rb_iload rfl ?_
                                      refine rb_push ?_
                                      refine rb_push ?_
                                      apply rb_callS3
                                      case hcl => exact rfl
                                      case hc =>
                                        apply ex_X9_in
                                        refine rn_step rfl ?_
                                        refine rb_iload rfl ?_
                                        refine rb_iload rfl ?_
                                        refine rb_clt (fun h => absurd h (by decide)) (fun _ => ?_)
                                        refine rb_iload rfl ?_
                                        refine rb_iload rfl ?_
                                        refine rb_cgt (fun h => absurd h (by decide)) (fun _ => ?_)
                                        refine rb_push ?_
                                        refine rb_goto ?_
                                        refine rn_step rfl ?_
                                        refine rb_ret rfl rfl
                                      refine rb_ieq (fun h => absurd h (by decide)) (fun _ => ?_)
                                      refine rb_iload rfl ?_
                                      refine rb_push ?_
                                      refine rb_push ?_
                                      apply rb_callS3
                                      case hcl => exact rfl
                                      case hc =>
                                        apply ex_X9_in
                                        refine rn_step rfl ?_
                                        refine rb_iload rfl ?_
                                        refine rb_iload rfl ?_
                                        refine rb_clt (fun h => absurd h (ia_nlt hlb (by decide))) (fun _ => ?_)
                                        refine rb_iload rfl ?_
                                        refine rb_iload rfl ?_
                                        refine rb_cgt (fun h => absurd h (ia_ngt hhb (by decide))) (fun _ => ?_)
                                        refine rb_push ?_
                                        refine rb_goto ?_
                                        refine rn_step rfl ?_
                                        refine rb_ret rfl rfl
                                      refine rb_ieq (fun h => absurd h (by decide)) (fun _ => ?_)
                                      refine rb_aload rfl ?_
                                      refine rb_push ?_
                                      refine rb_iload rfl ?_
                                      refine rb_binL (z := 17) (by decide) ?_
                                      refine rb_iload rfl ?_
                                      apply rb_callV2
                                      case hb => exact rfl
                                      case hcl => exact rfl
                                      case hc =>
                                        apply ex_X9_becomes
                                        refine rn_step rfl ?_
                                        refine rb_aload rfl ?_
                                        refine rb_getf (v := .ref 69) rfl ?_
                                        refine rb_iload rfl ?_
                                        refine rb_iald rfl (by decide) (show _ = some (50) from rfl) ?_
                                        refine rb_istore (lv' := [some (.ref 68), some (.int 17), some (.int (b)), some (.int 50)]) rfl ?_
                                        refine rb_aload rfl ?_
                                        refine rb_getf (v := .ref 69) rfl ?_
                                        refine rb_iload rfl ?_
                                        refine rb_iload rfl ?_
                                        refine rb_iast rfl (by decide) (ok_lt (okA s1_ok (c := 8) (n := 24) (by decide) rfl (by decide) rfl) (c := 69) (n := 1461) (by decide) rfl (by decide) (by decide)) (wa_69 _ _) ?_
                                        refine rb_iload rfl ?_
                                        refine rb_ret rfl rfl
                                      refine rb_goto ?_
                                      refine rn_step rfl ?_
                                      refine rb_ret rfl rfl
                                    case h3 => exact (okL.sA (okA s1_ok (c := 8) (n := 24) (by decide) rfl (by decide) rfl) _ (List.length_set ..))
                                    case h4 => exact rfl
                                  ·
                                    rcases ia_cut (c := 14) hla hha with ⟨hla, hha⟩ | ⟨hla, hha⟩
                                    ·
                                      obtain rfl : a = 13 := ia_one hla hha (by decide) (by decide)
                                      apply p1_intro (v := 50)
                                      case h1 =>
                                        apply ex_X8_want
                                        refine rn_step rfl ?_
                                        refine rb_iload rfl ?_
                                        refine rb_push ?_
                                        refine rb_push ?_
                                        apply rb_callS3
                                        case hcl => exact rfl
                                        case hc =>
                                          apply ex_X8_within
                                          refine rn_step rfl ?_
                                          refine rb_iload rfl ?_
                                          refine rb_iload rfl ?_
                                          refine rb_clt (fun h => absurd h (by decide)) (fun _ => ?_)
                                          refine rb_iload rfl ?_
                                          refine rb_iload rfl ?_
                                          refine rb_cgt (fun h => absurd h (by decide)) (fun _ => ?_)
                                          refine rb_push ?_
                                          refine rb_goto ?_
                                          refine rn_step rfl ?_
                                          refine rb_ret rfl rfl
                                        refine rb_ieq (fun h => absurd h (by decide)) (fun _ => ?_)
                                        refine rb_iload rfl ?_
                                        refine rb_push ?_
                                        refine rb_push ?_
                                        apply rb_callS3
                                        case hcl => exact rfl
                                        case hc =>
                                          apply ex_X8_within
                                          refine rn_step rfl ?_
                                          refine rb_iload rfl ?_
                                          refine rb_iload rfl ?_
                                          refine rb_clt (fun h => absurd h (ia_nlt hlb (by decide))) (fun _ => ?_)
                                          refine rb_iload rfl ?_
                                          refine rb_iload rfl ?_
                                          refine rb_cgt (fun h => absurd h (ia_ngt hhb (by decide))) (fun _ => ?_)
                                          refine rb_push ?_
                                          refine rb_goto ?_
                                          refine rn_step rfl ?_
                                          refine rb_ret rfl rfl
                                        refine rb_ine (fun _ => ?_) (fun h => absurd (by decide) h)
                                        refine rn_step rfl ?_
                                        refine rb_aload rfl ?_
                                        refine rb_getf (v := .ref 1) rfl ?_
                                        refine rb_getf (v := .ref 8) rfl ?_
                                        refine rb_iload rfl ?_
                                        refine rb_iald rfl (by decide) (show _ = some (50) from rfl) ?_
                                        refine rb_istore (lv' := [some (.ref 0), some (.int 13), some (.int (b)), some (.int 50)]) rfl ?_
                                        refine rb_aload rfl ?_
                                        refine rb_getf (v := .ref 1) rfl ?_
                                        refine rb_getf (v := .ref 8) rfl ?_
                                        refine rb_iload rfl ?_
                                        refine rb_iload rfl ?_
                                        refine rb_iastL (xs' := [50, 50, 50, 50, 50, 50, 50, 50, 50, 50, 50, 50, 50, b, 50, 50, 50, 50, 50, 50, 50, 50, 50, 50]) rfl (by decide) (ok_lt s1_ok (c := 8) (n := 24) (by decide) rfl (by decide) (by decide)) rfl (wa_8 _ _) ?_
                                        refine rb_iload rfl ?_
                                        refine rb_ret rfl rfl
                                      case h2 =>
                                        apply ex_X9_want
                                        refine rn_step rfl ?_
                                        refine rb_iload rfl ?_
                                        refine rb_push ?_
                                        refine rb_push ?_
                                        apply rb_callS3
                                        case hcl => exact rfl
                                        case hc =>
                                          apply ex_X9_in
                                          refine rn_step rfl ?_
                                          refine rb_iload rfl ?_
                                          refine rb_iload rfl ?_
                                          refine rb_clt (fun h => absurd h (by decide)) (fun _ => ?_)
                                          refine rb_iload rfl ?_
                                          refine rb_iload rfl ?_
                                          refine rb_cgt (fun h => absurd h (by decide)) (fun _ => ?_)
                                          refine rb_push ?_
                                          refine rb_goto ?_
                                          refine rn_step rfl ?_
                                          refine rb_ret rfl rfl
                                        refine rb_ieq (fun h => absurd h (by decide)) (fun _ => ?_)
                                        refine rb_iload rfl ?_
                                        refine rb_push ?_
                                        refine rb_push ?_
                                        apply rb_callS3
                                        case hcl => exact rfl
                                        case hc =>
                                          apply ex_X9_in
                                          refine rn_step rfl ?_
                                          refine rb_iload rfl ?_
                                          refine rb_iload rfl ?_
                                          refine rb_clt (fun h => absurd h (ia_nlt hlb (by decide))) (fun _ => ?_)
                                          refine rb_iload rfl ?_
                                          refine rb_iload rfl ?_
                                          refine rb_cgt (fun h => absurd h (ia_ngt hhb (by decide))) (fun _ => ?_)
                                          refine rb_push ?_
                                          refine rb_goto ?_
                                          refine rn_step rfl ?_
                                          refine rb_ret rfl rfl
                                        refine rb_ieq (fun h => absurd h (by decide)) (fun _ => ?_)
                                        refine rb_aload rfl ?_
                                        refine rb_push ?_
                                        refine rb_iload rfl ?_
                                        refine rb_binL (z := 18) (by decide) ?_
                                        refine rb_iload rfl ?_
                                        apply rb_callV2
                                        case hb => exact rfl
                                        case hcl => exact rfl
                                        case hc =>
                                          apply ex_X9_becomes
                                          refine rn_step rfl ?_
                                          refine rb_aload rfl ?_
                                          refine rb_getf (v := .ref 69) rfl ?_
                                          refine rb_iload rfl ?_
                                          refine rb_iald rfl (by decide) (show _ = some (50) from rfl) ?_
                                          refine rb_istore (lv' := [some (.ref 68), some (.int 18), some (.int (b)), some (.int 50)]) rfl ?_
                                          refine rb_aload rfl ?_
                                          refine rb_getf (v := .ref 69) rfl ?_
                                          refine rb_iload rfl ?_
                                          refine rb_iload rfl ?_
                                          refine rb_iast rfl (by decide) (ok_lt (okA s1_ok (c := 8) (n := 24) (by decide) rfl (by decide) rfl) (c := 69) (n := 1461) (by decide) rfl (by decide) (by decide)) (wa_69 _ _) ?_
                                          refine rb_iload rfl ?_
                                          refine rb_ret rfl rfl
                                        refine rb_goto ?_
                                        refine rn_step rfl ?_
                                        refine rb_ret rfl rfl
                                      case h3 => exact (okL.sA (okA s1_ok (c := 8) (n := 24) (by decide) rfl (by decide) rfl) _ (List.length_set ..))
                                      case h4 => exact rfl
                                    ·
                                      rcases ia_cut (c := 15) hla hha with ⟨hla, hha⟩ | ⟨hla, hha⟩
                                      ·
                                        obtain rfl : a = 14 := ia_one hla hha (by decide) (by decide)
                                        apply p1_intro (v := 50)
                                        case h1 =>
                                          apply ex_X8_want
                                          refine rn_step rfl ?_
                                          refine rb_iload rfl ?_
                                          refine rb_push ?_
                                          refine rb_push ?_
                                          apply rb_callS3
                                          case hcl => exact rfl
                                          case hc =>
                                            apply ex_X8_within
                                            refine rn_step rfl ?_
                                            refine rb_iload rfl ?_
                                            refine rb_iload rfl ?_
                                            refine rb_clt (fun h => absurd h (by decide)) (fun _ => ?_)
                                            refine rb_iload rfl ?_
                                            refine rb_iload rfl ?_
                                            refine rb_cgt (fun h => absurd h (by decide)) (fun _ => ?_)
                                            refine rb_push ?_
                                            refine rb_goto ?_
                                            refine rn_step rfl ?_
                                            refine rb_ret rfl rfl
                                          refine rb_ieq (fun h => absurd h (by decide)) (fun _ => ?_)
                                          refine rb_iload rfl ?_
                                          refine rb_push ?_
                                          refine rb_push ?_
                                          apply rb_callS3
                                          case hcl => exact rfl
                                          case hc =>
                                            apply ex_X8_within
                                            refine rn_step rfl ?_
                                            refine rb_iload rfl ?_
                                            refine rb_iload rfl ?_
                                            refine rb_clt (fun h => absurd h (ia_nlt hlb (by decide))) (fun _ => ?_)
                                            refine rb_iload rfl ?_
                                            refine rb_iload rfl ?_
                                            refine rb_cgt (fun h => absurd h (ia_ngt hhb (by decide))) (fun _ => ?_)
                                            refine rb_push ?_
                                            refine rb_goto ?_
                                            refine rn_step rfl ?_
                                            refine rb_ret rfl rfl
                                          refine rb_ine (fun _ => ?_) (fun h => absurd (by decide) h)
                                          refine rn_step rfl ?_
                                          refine rb_aload rfl ?_
                                          refine rb_getf (v := .ref 1) rfl ?_
                                          refine rb_getf (v := .ref 8) rfl ?_
                                          refine rb_iload rfl ?_
                                          refine rb_iald rfl (by decide) (show _ = some (50) from rfl) ?_
                                          refine rb_istore (lv' := [some (.ref 0), some (.int 14), some (.int (b)), some (.int 50)]) rfl ?_
                                          refine rb_aload rfl ?_
                                          refine rb_getf (v := .ref 1) rfl ?_
                                          refine rb_getf (v := .ref 8) rfl ?_
                                          refine rb_iload rfl ?_
                                          refine rb_iload rfl ?_
                                          refine rb_iastL (xs' := [50, 50, 50, 50, 50, 50, 50, 50, 50, 50, 50, 50, 50, 50, b, 50, 50, 50, 50, 50, 50, 50, 50, 50]) rfl (by decide) (ok_lt s1_ok (c := 8) (n := 24) (by decide) rfl (by decide) (by decide)) rfl (wa_8 _ _) ?_
                                          refine rb_iload rfl ?_
                                          refine rb_ret rfl rfl
                                        case h2 =>
                                          apply ex_X9_want
                                          refine rn_step rfl ?_
                                          refine rb_iload rfl ?_
                                          refine rb_push ?_
                                          refine rb_push ?_
                                          apply rb_callS3
                                          case hcl => exact rfl
                                          case hc =>
                                            apply ex_X9_in
                                            refine rn_step rfl ?_
                                            refine rb_iload rfl ?_
                                            refine rb_iload rfl ?_
                                            refine rb_clt (fun h => absurd h (by decide)) (fun _ => ?_)
                                            refine rb_iload rfl ?_
                                            refine rb_iload rfl ?_
                                            refine rb_cgt (fun h => absurd h (by decide)) (fun _ => ?_)
                                            refine rb_push ?_
                                            refine rb_goto ?_
                                            refine rn_step rfl ?_
                                            refine rb_ret rfl rfl
                                          refine rb_ieq (fun h => absurd h (by decide)) (fun _ => ?_)
                                          refine rb_iload rfl ?_
                                          refine rb_push ?_
                                          refine rb_push ?_
                                          apply rb_callS3
                                          case hcl => exact rfl
                                          case hc =>
                                            apply ex_X9_in
                                            refine rn_step rfl ?_
                                            refine rb_iload rfl ?_
                                            refine rb_iload rfl ?_
                                            refine rb_clt (fun h => absurd h (ia_nlt hlb (by decide))) (fun _ => ?_)
                                            refine rb_iload rfl ?_
                                            refine rb_iload rfl ?_
                                            refine rb_cgt (fun h => absurd h (ia_ngt hhb (by decide))) (fun _ => ?_)
                                            refine rb_push ?_
                                            refine rb_goto ?_
                                            refine rn_step rfl ?_
                                            refine rb_ret rfl rfl
                                          refine rb_ieq (fun h => absurd h (by decide)) (fun _ => ?_)
                                          refine rb_aload rfl ?_
                                          refine rb_push ?_
                                          refine rb_iload rfl ?_
                                          refine rb_binL (z := 19) (by decide) ?_
                                          refine rb_iload rfl ?_
                                          apply rb_callV2
                                          case hb => exact rfl
                                          case hcl => exact rfl
                                          case hc =>
                                            apply ex_X9_becomes
                                            refine rn_step rfl ?_
                                            refine rb_aload rfl ?_
                                            refine rb_getf (v := .ref 69) rfl ?_
                                            refine rb_iload rfl ?_
                                            refine rb_iald rfl (by decide) (show _ = some (50) from rfl) ?_
                                            refine rb_istore (lv' := [some (.ref 68), some (.int 19), some (.int (b)), some (.int 50)]) rfl ?_
                                            refine rb_aload rfl ?_
                                            refine rb_getf (v := .ref 69) rfl ?_
                                            refine rb_iload rfl ?_
                                            refine rb_iload rfl ?_
                                            refine rb_iast rfl (by decide) (ok_lt (okA s1_ok (c := 8) (n := 24) (by decide) rfl (by decide) rfl) (c := 69) (n := 1461) (by decide) rfl (by decide) (by decide)) (wa_69 _ _) ?_
                                            refine rb_iload rfl ?_
                                            refine rb_ret rfl rfl
                                          refine rb_goto ?_
                                          refine rn_step rfl ?_
                                          refine rb_ret rfl rfl
                                        case h3 => exact (okL.sA (okA s1_ok (c := 8) (n := 24) (by decide) rfl (by decide) rfl) _ (List.length_set ..))
                                        case h4 => exact rfl
                                      ·
                                        rcases ia_cut (c := 16) hla hha with ⟨hla, hha⟩ | ⟨hla, hha⟩
                                        ·
                                          obtain rfl : a = 15 := ia_one hla hha (by decide) (by decide)
                                          apply p1_intro (v := 50)
                                          case h1 =>
                                            apply ex_X8_want
                                            refine rn_step rfl ?_
                                            refine rb_iload rfl ?_
                                            refine rb_push ?_
                                            refine rb_push ?_
                                            apply rb_callS3
                                            case hcl => exact rfl
                                            case hc =>
                                              apply ex_X8_within
                                              refine rn_step rfl ?_
                                              refine rb_iload rfl ?_
                                              refine rb_iload rfl ?_
                                              refine rb_clt (fun h => absurd h (by decide)) (fun _ => ?_)
                                              refine rb_iload rfl ?_
                                              refine rb_iload rfl ?_
                                              refine rb_cgt (fun h => absurd h (by decide)) (fun _ => ?_)
                                              refine rb_push ?_
                                              refine rb_goto ?_
                                              refine rn_step rfl ?_
                                              refine rb_ret rfl rfl
                                            refine rb_ieq (fun h => absurd h (by decide)) (fun _ => ?_)
                                            refine rb_iload rfl ?_
                                            refine rb_push ?_
                                            refine rb_push ?_
                                            apply rb_callS3
                                            case hcl => exact rfl
                                            case hc =>
                                              apply ex_X8_within
                                              refine rn_step rfl ?_
                                              refine rb_iload rfl ?_
                                              refine rb_iload rfl ?_
                                              refine rb_clt (fun h => absurd h (ia_nlt hlb (by decide))) (fun _ => ?_)
                                              refine rb_iload rfl ?_
                                              refine rb_iload rfl ?_
                                              refine rb_cgt (fun h => absurd h (ia_ngt hhb (by decide))) (fun _ => ?_)
                                              refine rb_push ?_
                                              refine rb_goto ?_
                                              refine rn_step rfl ?_
                                              refine rb_ret rfl rfl
                                            refine rb_ine (fun _ => ?_) (fun h => absurd (by decide) h)
                                            refine rn_step rfl ?_
                                            refine rb_aload rfl ?_
                                            refine rb_getf (v := .ref 1) rfl ?_
                                            refine rb_getf (v := .ref 8) rfl ?_
                                            refine rb_iload rfl ?_
                                            refine rb_iald rfl (by decide) (show _ = some (50) from rfl) ?_
                                            refine rb_istore (lv' := [some (.ref 0), some (.int 15), some (.int (b)), some (.int 50)]) rfl ?_
                                            refine rb_aload rfl ?_
                                            refine rb_getf (v := .ref 1) rfl ?_
                                            refine rb_getf (v := .ref 8) rfl ?_
                                            refine rb_iload rfl ?_
                                            refine rb_iload rfl ?_
                                            refine rb_iastL (xs' := [50, 50, 50, 50, 50, 50, 50, 50, 50, 50, 50, 50, 50, 50, 50, b, 50, 50, 50, 50, 50, 50, 50, 50]) rfl (by decide) (ok_lt s1_ok (c := 8) (n := 24) (by decide) rfl (by decide) (by decide)) rfl (wa_8 _ _) ?_
                                            refine rb_iload rfl ?_
                                            refine rb_ret rfl rfl
                                          case h2 =>
                                            apply ex_X9_want
                                            refine rn_step rfl ?_
                                            refine rb_iload rfl ?_
                                            refine rb_push ?_
                                            refine rb_push ?_
                                            apply rb_callS3
                                            case hcl => exact rfl
                                            case hc =>
                                              apply ex_X9_in
                                              refine rn_step rfl ?_
                                              refine rb_iload rfl ?_
                                              refine rb_iload rfl ?_
                                              refine rb_clt (fun h => absurd h (by decide)) (fun _ => ?_)
                                              refine rb_iload rfl ?_
                                              refine rb_iload rfl ?_
                                              refine rb_cgt (fun h => absurd h (by decide)) (fun _ => ?_)
                                              refine rb_push ?_
                                              refine rb_goto ?_
                                              refine rn_step rfl ?_
                                              refine rb_ret rfl rfl
                                            refine rb_ieq (fun h => absurd h (by decide)) (fun _ => ?_)
                                            refine rb_iload rfl ?_
                                            refine rb_push ?_
                                            refine rb_push ?_
                                            apply rb_callS3
                                            case hcl => exact rfl
                                            case hc =>
                                              apply ex_X9_in
                                              refine rn_step rfl ?_
                                              refine rb_iload rfl ?_
                                              refine rb_iload rfl ?_
                                              refine rb_clt (fun h => absurd h (ia_nlt hlb (by decide))) (fun _ => ?_)
                                              refine rb_iload rfl ?_
                                              refine rb_iload rfl ?_
                                              refine rb_cgt (fun h => absurd h (ia_ngt hhb (by decide))) (fun _ => ?_)
                                              refine rb_push ?_
                                              refine rb_goto ?_
                                              refine rn_step rfl ?_
                                              refine rb_ret rfl rfl
                                            refine rb_ieq (fun h => absurd h (by decide)) (fun _ => ?_)
                                            refine rb_aload rfl ?_
                                            refine rb_push ?_
                                            refine rb_iload rfl ?_
                                            refine rb_binL (z := 20) (by decide) ?_
                                            refine rb_iload rfl ?_
                                            apply rb_callV2
                                            case hb => exact rfl
                                            case hcl => exact rfl
                                            case hc =>
                                              apply ex_X9_becomes
                                              refine rn_step rfl ?_
                                              refine rb_aload rfl ?_
                                              refine rb_getf (v := .ref 69) rfl ?_
                                              refine rb_iload rfl ?_
                                              refine rb_iald rfl (by decide) (show _ = some (50) from rfl) ?_
                                              refine rb_istore (lv' := [some (.ref 68), some (.int 20), some (.int (b)), some (.int 50)]) rfl ?_
                                              refine rb_aload rfl ?_
                                              refine rb_getf (v := .ref 69) rfl ?_
                                              refine rb_iload rfl ?_
                                              refine rb_iload rfl ?_
                                              refine rb_iast rfl (by decide) (ok_lt (okA s1_ok (c := 8) (n := 24) (by decide) rfl (by decide) rfl) (c := 69) (n := 1461) (by decide) rfl (by decide) (by decide)) (wa_69 _ _) ?_
                                              refine rb_iload rfl ?_
                                              refine rb_ret rfl rfl
                                            refine rb_goto ?_
                                            refine rn_step rfl ?_
                                            refine rb_ret rfl rfl
                                          case h3 => exact (okL.sA (okA s1_ok (c := 8) (n := 24) (by decide) rfl (by decide) rfl) _ (List.length_set ..))
                                          case h4 => exact rfl
                                        ·
                                          rcases ia_cut (c := 17) hla hha with ⟨hla, hha⟩ | ⟨hla, hha⟩
                                          ·
                                            obtain rfl : a = 16 := ia_one hla hha (by decide) (by decide)
                                            apply p1_intro (v := 50)
                                            case h1 =>
                                              apply ex_X8_want
                                              refine rn_step rfl ?_
                                              refine rb_iload rfl ?_
                                              refine rb_push ?_
                                              refine rb_push ?_
                                              apply rb_callS3
                                              case hcl => exact rfl
                                              case hc =>
                                                apply ex_X8_within
                                                refine rn_step rfl ?_
                                                refine rb_iload rfl ?_
                                                refine rb_iload rfl ?_
                                                refine rb_clt (fun h => absurd h (by decide)) (fun _ => ?_)
                                                refine rb_iload rfl ?_
                                                refine rb_iload rfl ?_
                                                refine rb_cgt (fun h => absurd h (by decide)) (fun _ => ?_)
                                                refine rb_push ?_
                                                refine rb_goto ?_
                                                refine rn_step rfl ?_
                                                refine rb_ret rfl rfl
                                              refine rb_ieq (fun h => absurd h (by decide)) (fun _ => ?_)
                                              refine rb_iload rfl ?_
                                              refine rb_push ?_
                                              refine rb_push ?_
                                              apply rb_callS3
                                              case hcl => exact rfl
                                              case hc =>
                                                apply ex_X8_within
                                                refine rn_step rfl ?_
                                                refine rb_iload rfl ?_
                                                refine rb_iload rfl ?_
                                                refine rb_clt (fun h => absurd h (ia_nlt hlb (by decide))) (fun _ => ?_)
                                                refine rb_iload rfl ?_
                                                refine rb_iload rfl ?_
                                                refine rb_cgt (fun h => absurd h (ia_ngt hhb (by decide))) (fun _ => ?_)
                                                refine rb_push ?_
                                                refine rb_goto ?_
                                                refine rn_step rfl ?_
                                                refine rb_ret rfl rfl
                                              refine rb_ine (fun _ => ?_) (fun h => absurd (by decide) h)
                                              refine rn_step rfl ?_
                                              refine rb_aload rfl ?_
                                              refine rb_getf (v := .ref 1) rfl ?_
                                              refine rb_getf (v := .ref 8) rfl ?_
                                              refine rb_iload rfl ?_
                                              refine rb_iald rfl (by decide) (show _ = some (50) from rfl) ?_
                                              refine rb_istore (lv' := [some (.ref 0), some (.int 16), some (.int (b)), some (.int 50)]) rfl ?_
                                              refine rb_aload rfl ?_
                                              refine rb_getf (v := .ref 1) rfl ?_
                                              refine rb_getf (v := .ref 8) rfl ?_
                                              refine rb_iload rfl ?_
                                              refine rb_iload rfl ?_
                                              refine rb_iastL (xs' := [50, 50, 50, 50, 50, 50, 50, 50, 50, 50, 50, 50, 50, 50, 50, 50, b, 50, 50, 50, 50, 50, 50, 50]) rfl (by decide) (ok_lt s1_ok (c := 8) (n := 24) (by decide) rfl (by decide) (by decide)) rfl (wa_8 _ _) ?_
                                              refine rb_iload rfl ?_
                                              refine rb_ret rfl rfl
                                            case h2 =>
                                              apply ex_X9_want
                                              refine rn_step rfl ?_
                                              refine rb_iload rfl ?_
                                              refine rb_push ?_
                                              refine rb_push ?_
                                              apply rb_callS3
                                              case hcl => exact rfl
                                              case hc =>
                                                apply ex_X9_in
                                                refine rn_step rfl ?_
                                                refine rb_iload rfl ?_
                                                refine rb_iload rfl ?_
                                                refine rb_clt (fun h => absurd h (by decide)) (fun _ => ?_)
                                                refine rb_iload rfl ?_
                                                refine rb_iload rfl ?_
                                                refine rb_cgt (fun h => absurd h (by decide)) (fun _ => ?_)
                                                refine rb_push ?_
                                                refine rb_goto ?_
                                                refine rn_step rfl ?_
                                                refine rb_ret rfl rfl
                                              refine rb_ieq (fun h => absurd h (by decide)) (fun _ => ?_)
                                              refine rb_iload rfl ?_
                                              refine rb_push ?_
                                              refine rb_push ?_
                                              apply rb_callS3
                                              case hcl => exact rfl
                                              case hc =>
                                                apply ex_X9_in
                                                refine rn_step rfl ?_
                                                refine rb_iload rfl ?_
                                                refine rb_iload rfl ?_
                                                refine rb_clt (fun h => absurd h (ia_nlt hlb (by decide))) (fun _ => ?_)
                                                refine rb_iload rfl ?_
                                                refine rb_iload rfl ?_
                                                refine rb_cgt (fun h => absurd h (ia_ngt hhb (by decide))) (fun _ => ?_)
                                                refine rb_push ?_
                                                refine rb_goto ?_
                                                refine rn_step rfl ?_
                                                refine rb_ret rfl rfl
                                              refine rb_ieq (fun h => absurd h (by decide)) (fun _ => ?_)
                                              refine rb_aload rfl ?_
                                              refine rb_push ?_
                                              refine rb_iload rfl ?_
                                              refine rb_binL (z := 21) (by decide) ?_
                                              refine rb_iload rfl ?_
                                              apply rb_callV2
                                              case hb => exact rfl
                                              case hcl => exact rfl
                                              case hc =>
                                                apply ex_X9_becomes
                                                refine rn_step rfl ?_
                                                refine rb_aload rfl ?_
                                                refine rb_getf (v := .ref 69) rfl ?_
                                                refine rb_iload rfl ?_
                                                refine rb_iald rfl (by decide) (show _ = some (50) from rfl) ?_
                                                refine rb_istore (lv' := [some (.ref 68), some (.int 21), some (.int (b)), some (.int 50)]) rfl ?_
                                                refine rb_aload rfl ?_
                                                refine rb_getf (v := .ref 69) rfl ?_
                                                refine rb_iload rfl ?_
                                                refine rb_iload rfl ?_
                                                refine rb_iast rfl (by decide) (ok_lt (okA s1_ok (c := 8) (n := 24) (by decide) rfl (by decide) rfl) (c := 69) (n := 1461) (by decide) rfl (by decide) (by decide)) (wa_69 _ _) ?_
                                                refine rb_iload rfl ?_
                                                refine rb_ret rfl rfl
                                              refine rb_goto ?_
                                              refine rn_step rfl ?_
                                              refine rb_ret rfl rfl
                                            case h3 => exact (okL.sA (okA s1_ok (c := 8) (n := 24) (by decide) rfl (by decide) rfl) _ (List.length_set ..))
                                            case h4 => exact rfl
                                          ·
                                            rcases ia_cut (c := 18) hla hha with ⟨hla, hha⟩ | ⟨hla, hha⟩
                                            ·
                                              obtain rfl : a = 17 := ia_one hla hha (by decide) (by decide)
                                              apply p1_intro (v := 50)
                                              case h1 =>
                                                apply ex_X8_want
                                                refine rn_step rfl ?_
                                                refine rb_iload rfl ?_
                                                refine rb_push ?_
                                                refine rb_push ?_
                                                apply rb_callS3
                                                case hcl => exact rfl
                                                case hc =>
                                                  apply ex_X8_within
                                                  refine rn_step rfl ?_
                                                  refine rb_iload rfl ?_
                                                  refine rb_iload rfl ?_
                                                  refine rb_clt (fun h => absurd h (by decide)) (fun _ => ?_)
                                                  refine rb_iload rfl ?_
                                                  refine rb_iload rfl ?_
                                                  refine rb_cgt (fun h => absurd h (by decide)) (fun _ => ?_)
                                                  refine rb_push ?_
                                                  refine rb_goto ?_
                                                  refine rn_step rfl ?_
                                                  refine rb_ret rfl rfl
                                                refine rb_ieq (fun h => absurd h (by decide)) (fun _ => ?_)
                                                refine rb_iload rfl ?_
                                                refine rb_push ?_
                                                refine rb_push ?_
                                                apply rb_callS3
                                                case hcl => exact rfl
                                                case hc =>
                                                  apply ex_X8_within
                                                  refine rn_step rfl ?_
                                                  refine rb_iload rfl ?_
                                                  refine rb_iload rfl ?_
                                                  refine rb_clt (fun h => absurd h (ia_nlt hlb (by decide))) (fun _ => ?_)
                                                  refine rb_iload rfl ?_
                                                  refine rb_iload rfl ?_
                                                  refine rb_cgt (fun h => absurd h (ia_ngt hhb (by decide))) (fun _ => ?_)
                                                  refine rb_push ?_
                                                  refine rb_goto ?_
                                                  refine rn_step rfl ?_
                                                  refine rb_ret rfl rfl
                                                refine rb_ine (fun _ => ?_) (fun h => absurd (by decide) h)
                                                refine rn_step rfl ?_
                                                refine rb_aload rfl ?_
                                                refine rb_getf (v := .ref 1) rfl ?_
                                                refine rb_getf (v := .ref 8) rfl ?_
                                                refine rb_iload rfl ?_
                                                refine rb_iald rfl (by decide) (show _ = some (50) from rfl) ?_
                                                refine rb_istore (lv' := [some (.ref 0), some (.int 17), some (.int (b)), some (.int 50)]) rfl ?_
                                                refine rb_aload rfl ?_
                                                refine rb_getf (v := .ref 1) rfl ?_
                                                refine rb_getf (v := .ref 8) rfl ?_
                                                refine rb_iload rfl ?_
                                                refine rb_iload rfl ?_
                                                refine rb_iastL (xs' := [50, 50, 50, 50, 50, 50, 50, 50, 50, 50, 50, 50, 50, 50, 50, 50, 50, b, 50, 50, 50, 50, 50, 50]) rfl (by decide) (ok_lt s1_ok (c := 8) (n := 24) (by decide) rfl (by decide) (by decide)) rfl (wa_8 _ _) ?_
                                                refine rb_iload rfl ?_
                                                refine rb_ret rfl rfl
                                              case h2 =>
                                                apply ex_X9_want
                                                refine rn_step rfl ?_
                                                refine rb_iload rfl ?_
                                                refine rb_push ?_
                                                refine rb_push ?_
                                                apply rb_callS3
                                                case hcl => exact rfl
                                                case hc =>
                                                  apply ex_X9_in
                                                  refine rn_step rfl ?_
                                                  refine rb_iload rfl ?_
                                                  refine rb_iload rfl ?_
                                                  refine rb_clt (fun h => absurd h (by decide)) (fun _ => ?_)
                                                  refine rb_iload rfl ?_
                                                  refine rb_iload rfl ?_
                                                  refine rb_cgt (fun h => absurd h (by decide)) (fun _ => ?_)
                                                  refine rb_push ?_
                                                  refine rb_goto ?_
                                                  refine rn_step rfl ?_
                                                  refine rb_ret rfl rfl
                                                refine rb_ieq (fun h => absurd h (by decide)) (fun _ => ?_)
                                                refine rb_iload rfl ?_
                                                refine rb_push ?_
                                                refine rb_push ?_
                                                apply rb_callS3
                                                case hcl => exact rfl
                                                case hc =>
                                                  apply ex_X9_in
                                                  refine rn_step rfl ?_
                                                  refine rb_iload rfl ?_
                                                  refine rb_iload rfl ?_
                                                  refine rb_clt (fun h => absurd h (ia_nlt hlb (by decide))) (fun _ => ?_)
                                                  refine rb_iload rfl ?_
                                                  refine rb_iload rfl ?_
                                                  refine rb_cgt (fun h => absurd h (ia_ngt hhb (by decide))) (fun _ => ?_)
                                                  refine rb_push ?_
                                                  refine rb_goto ?_
                                                  refine rn_step rfl ?_
                                                  refine rb_ret rfl rfl
                                                refine rb_ieq (fun h => absurd h (by decide)) (fun _ => ?_)
                                                refine rb_aload rfl ?_
                                                refine rb_push ?_
                                                refine rb_iload rfl ?_
                                                refine rb_binL (z := 22) (by decide) ?_
                                                refine rb_iload rfl ?_
                                                apply rb_callV2
                                                case hb => exact rfl
                                                case hcl => exact rfl
                                                case hc =>
                                                  apply ex_X9_becomes
                                                  refine rn_step rfl ?_
                                                  refine rb_aload rfl ?_
                                                  refine rb_getf (v := .ref 69) rfl ?_
                                                  refine rb_iload rfl ?_
                                                  refine rb_iald rfl (by decide) (show _ = some (50) from rfl) ?_
                                                  refine rb_istore (lv' := [some (.ref 68), some (.int 22), some (.int (b)), some (.int 50)]) rfl ?_
                                                  refine rb_aload rfl ?_
                                                  refine rb_getf (v := .ref 69) rfl ?_
                                                  refine rb_iload rfl ?_
                                                  refine rb_iload rfl ?_
                                                  refine rb_iast rfl (by decide) (ok_lt (okA s1_ok (c := 8) (n := 24) (by decide) rfl (by decide) rfl) (c := 69) (n := 1461) (by decide) rfl (by decide) (by decide)) (wa_69 _ _) ?_
                                                  refine rb_iload rfl ?_
                                                  refine rb_ret rfl rfl
                                                refine rb_goto ?_
                                                refine rn_step rfl ?_
                                                refine rb_ret rfl rfl
                                              case h3 => exact (okL.sA (okA s1_ok (c := 8) (n := 24) (by decide) rfl (by decide) rfl) _ (List.length_set ..))
                                              case h4 => exact rfl
                                            ·
                                              rcases ia_cut (c := 19) hla hha with ⟨hla, hha⟩ | ⟨hla, hha⟩
                                              ·
                                                obtain rfl : a = 18 := ia_one hla hha (by decide) (by decide)
                                                apply p1_intro (v := 50)
                                                case h1 =>
                                                  apply ex_X8_want
                                                  refine rn_step rfl ?_
                                                  refine rb_iload rfl ?_
                                                  refine rb_push ?_
                                                  refine rb_push ?_
                                                  apply rb_callS3
                                                  case hcl => exact rfl
                                                  case hc =>
                                                    apply ex_X8_within
                                                    refine rn_step rfl ?_
                                                    refine rb_iload rfl ?_
                                                    refine rb_iload rfl ?_
                                                    refine rb_clt (fun h => absurd h (by decide)) (fun _ => ?_)
                                                    refine rb_iload rfl ?_
                                                    refine rb_iload rfl ?_
                                                    refine rb_cgt (fun h => absurd h (by decide)) (fun _ => ?_)
                                                    refine rb_push ?_
                                                    refine rb_goto ?_
                                                    refine rn_step rfl ?_
                                                    refine rb_ret rfl rfl
                                                  refine rb_ieq (fun h => absurd h (by decide)) (fun _ => ?_)
                                                  refine rb_iload rfl ?_
                                                  refine rb_push ?_
                                                  refine rb_push ?_
                                                  apply rb_callS3
                                                  case hcl => exact rfl
                                                  case hc =>
                                                    apply ex_X8_within
                                                    refine rn_step rfl ?_
                                                    refine rb_iload rfl ?_
                                                    refine rb_iload rfl ?_
                                                    refine rb_clt (fun h => absurd h (ia_nlt hlb (by decide))) (fun _ => ?_)
                                                    refine rb_iload rfl ?_
                                                    refine rb_iload rfl ?_
                                                    refine rb_cgt (fun h => absurd h (ia_ngt hhb (by decide))) (fun _ => ?_)
                                                    refine rb_push ?_
                                                    refine rb_goto ?_
                                                    refine rn_step rfl ?_
                                                    refine rb_ret rfl rfl
                                                  refine rb_ine (fun _ => ?_) (fun h => absurd (by decide) h)
                                                  refine rn_step rfl ?_
                                                  refine rb_aload rfl ?_
                                                  refine rb_getf (v := .ref 1) rfl ?_
                                                  refine rb_getf (v := .ref 8) rfl ?_
                                                  refine rb_iload rfl ?_
                                                  refine rb_iald rfl (by decide) (show _ = some (50) from rfl) ?_
                                                  refine rb_istore (lv' := [some (.ref 0), some (.int 18), some (.int (b)), some (.int 50)]) rfl ?_
                                                  refine rb_aload rfl ?_
                                                  refine rb_getf (v := .ref 1) rfl ?_
                                                  refine rb_getf (v := .ref 8) rfl ?_
                                                  refine rb_iload rfl ?_
                                                  refine rb_iload rfl ?_
                                                  refine rb_iastL (xs' := [50, 50, 50, 50, 50, 50, 50, 50, 50, 50, 50, 50, 50, 50, 50, 50, 50, 50, b, 50, 50, 50, 50, 50]) rfl (by decide) (ok_lt s1_ok (c := 8) (n := 24) (by decide) rfl (by decide) (by decide)) rfl (wa_8 _ _) ?_
                                                  refine rb_iload rfl ?_
                                                  refine rb_ret rfl rfl
                                                case h2 =>
                                                  apply ex_X9_want
                                                  refine rn_step rfl ?_
                                                  refine rb_iload rfl ?_
                                                  refine rb_push ?_
                                                  refine rb_push ?_
                                                  apply rb_callS3
                                                  case hcl => exact rfl
                                                  case hc =>
                                                    apply ex_X9_in
                                                    refine rn_step rfl ?_
                                                    refine rb_iload rfl ?_
                                                    refine rb_iload rfl ?_
                                                    refine rb_clt (fun h => absurd h (by decide)) (fun _ => ?_)
                                                    refine rb_iload rfl ?_
                                                    refine rb_iload rfl ?_
                                                    refine rb_cgt (fun h => absurd h (by decide)) (fun _ => ?_)
                                                    refine rb_push ?_
                                                    refine rb_goto ?_
                                                    refine rn_step rfl ?_
                                                    refine rb_ret rfl rfl
                                                  refine rb_ieq (fun h => absurd h (by decide)) (fun _ => ?_)
                                                  refine rb_iload rfl ?_
                                                  refine rb_push ?_
                                                  refine rb_push ?_
                                                  apply rb_callS3
                                                  case hcl => exact rfl
                                                  case hc =>
                                                    apply ex_X9_in
                                                    refine rn_step rfl ?_
                                                    refine rb_iload rfl ?_
                                                    refine rb_iload rfl ?_
                                                    refine rb_clt (fun h => absurd h (ia_nlt hlb (by decide))) (fun _ => ?_)
                                                    refine rb_iload rfl ?_
                                                    refine rb_iload rfl ?_
                                                    refine rb_cgt (fun h => absurd h (ia_ngt hhb (by decide))) (fun _ => ?_)
                                                    refine rb_push ?_
                                                    refine rb_goto ?_
                                                    refine rn_step rfl ?_
                                                    refine rb_ret rfl rfl
                                                  refine rb_ieq (fun h => absurd h (by decide)) (fun _ => ?_)
                                                  refine rb_aload rfl ?_
                                                  refine rb_push ?_
                                                  refine rb_iload rfl ?_
                                                  refine rb_binL (z := 23) (by decide) ?_
                                                  refine rb_iload rfl ?_
                                                  apply rb_callV2
                                                  case hb => exact rfl
                                                  case hcl => exact rfl
                                                  case hc =>
                                                    apply ex_X9_becomes
                                                    refine rn_step rfl ?_
                                                    refine rb_aload rfl ?_
                                                    refine rb_getf (v := .ref 69) rfl ?_
                                                    refine rb_iload rfl ?_
                                                    refine rb_iald rfl (by decide) (show _ = some (50) from rfl) ?_
                                                    refine rb_istore (lv' := [some (.ref 68), some (.int 23), some (.int (b)), some (.int 50)]) rfl ?_
                                                    refine rb_aload rfl ?_
                                                    refine rb_getf (v := .ref 69) rfl ?_
                                                    refine rb_iload rfl ?_
                                                    refine rb_iload rfl ?_
                                                    refine rb_iast rfl (by decide) (ok_lt (okA s1_ok (c := 8) (n := 24) (by decide) rfl (by decide) rfl) (c := 69) (n := 1461) (by decide) rfl (by decide) (by decide)) (wa_69 _ _) ?_
                                                    refine rb_iload rfl ?_
                                                    refine rb_ret rfl rfl
                                                  refine rb_goto ?_
                                                  refine rn_step rfl ?_
                                                  refine rb_ret rfl rfl
                                                case h3 => exact (okL.sA (okA s1_ok (c := 8) (n := 24) (by decide) rfl (by decide) rfl) _ (List.length_set ..))
                                                case h4 => exact rfl
                                              ·
                                                rcases ia_cut (c := 20) hla hha with ⟨hla, hha⟩ | ⟨hla, hha⟩
                                                ·
                                                  obtain rfl : a = 19 := ia_one hla hha (by decide) (by decide)
                                                  apply p1_intro (v := 50)
                                                  case h1 =>
                                                    apply ex_X8_want
                                                    refine rn_step rfl ?_
                                                    refine rb_iload rfl ?_
                                                    refine rb_push ?_
                                                    refine rb_push ?_
                                                    apply rb_callS3
                                                    case hcl => exact rfl
                                                    case hc =>
                                                      apply ex_X8_within
                                                      refine rn_step rfl ?_
                                                      refine rb_iload rfl ?_
                                                      refine rb_iload rfl ?_
                                                      refine rb_clt (fun h => absurd h (by decide)) (fun _ => ?_)
                                                      refine rb_iload rfl ?_
                                                      refine rb_iload rfl ?_
                                                      refine rb_cgt (fun h => absurd h (by decide)) (fun _ => ?_)
                                                      refine rb_push ?_
                                                      refine rb_goto ?_
                                                      refine rn_step rfl ?_
                                                      refine rb_ret rfl rfl
                                                    refine rb_ieq (fun h => absurd h (by decide)) (fun _ => ?_)
                                                    refine rb_iload rfl ?_
                                                    refine rb_push ?_
                                                    refine rb_push ?_
                                                    apply rb_callS3
                                                    case hcl => exact rfl
                                                    case hc =>
                                                      apply ex_X8_within
                                                      refine rn_step rfl ?_
                                                      refine rb_iload rfl ?_
                                                      refine rb_iload rfl ?_
                                                      refine rb_clt (fun h => absurd h (ia_nlt hlb (by decide))) (fun _ => ?_)
                                                      refine rb_iload rfl ?_
                                                      refine rb_iload rfl ?_
                                                      refine rb_cgt (fun h => absurd h (ia_ngt hhb (by decide))) (fun _ => ?_)
                                                      refine rb_push ?_
                                                      refine rb_goto ?_
                                                      refine rn_step rfl ?_
                                                      refine rb_ret rfl rfl
                                                    refine rb_ine (fun _ => ?_) (fun h => absurd (by decide) h)
                                                    refine rn_step rfl ?_
                                                    refine rb_aload rfl ?_
                                                    refine rb_getf (v := .ref 1) rfl ?_
                                                    refine rb_getf (v := .ref 8) rfl ?_
                                                    refine rb_iload rfl ?_
                                                    refine rb_iald rfl (by decide) (show _ = some (50) from rfl) ?_
                                                    refine rb_istore (lv' := [some (.ref 0), some (.int 19), some (.int (b)), some (.int 50)]) rfl ?_
                                                    refine rb_aload rfl ?_
                                                    refine rb_getf (v := .ref 1) rfl ?_
                                                    refine rb_getf (v := .ref 8) rfl ?_
                                                    refine rb_iload rfl ?_
                                                    refine rb_iload rfl ?_
                                                    refine rb_iastL (xs' := [50, 50, 50, 50, 50, 50, 50, 50, 50, 50, 50, 50, 50, 50, 50, 50, 50, 50, 50, b, 50, 50, 50, 50]) rfl (by decide) (ok_lt s1_ok (c := 8) (n := 24) (by decide) rfl (by decide) (by decide)) rfl (wa_8 _ _) ?_
                                                    refine rb_iload rfl ?_
                                                    refine rb_ret rfl rfl
                                                  case h2 =>
                                                    apply ex_X9_want
                                                    refine rn_step rfl ?_
                                                    refine rb_iload rfl ?_
                                                    refine rb_push ?_
                                                    refine rb_push ?_
                                                    apply rb_callS3
                                                    case hcl => exact rfl
                                                    case hc =>
                                                      apply ex_X9_in
                                                      refine rn_step rfl ?_
                                                      refine rb_iload rfl ?_
                                                      refine rb_iload rfl ?_
                                                      refine rb_clt (fun h => absurd h (by decide)) (fun _ => ?_)
                                                      refine rb_iload rfl ?_
                                                      refine rb_iload rfl ?_
                                                      refine rb_cgt (fun h => absurd h (by decide)) (fun _ => ?_)
                                                      refine rb_push ?_
                                                      refine rb_goto ?_
                                                      refine rn_step rfl ?_
                                                      refine rb_ret rfl rfl
                                                    refine rb_ieq (fun h => absurd h (by decide)) (fun _ => ?_)
                                                    refine rb_iload rfl ?_
                                                    refine rb_push ?_
                                                    refine rb_push ?_
                                                    apply rb_callS3
                                                    case hcl => exact rfl
                                                    case hc =>
                                                      apply ex_X9_in
                                                      refine rn_step rfl ?_
                                                      refine rb_iload rfl ?_
                                                      refine rb_iload rfl ?_
                                                      refine rb_clt (fun h => absurd h (ia_nlt hlb (by decide))) (fun _ => ?_)
                                                      refine rb_iload rfl ?_
                                                      refine rb_iload rfl ?_
                                                      refine rb_cgt (fun h => absurd h (ia_ngt hhb (by decide))) (fun _ => ?_)
                                                      refine rb_push ?_
                                                      refine rb_goto ?_
                                                      refine rn_step rfl ?_
                                                      refine rb_ret rfl rfl
                                                    refine rb_ieq (fun h => absurd h (by decide)) (fun _ => ?_)
                                                    refine rb_aload rfl ?_
                                                    refine rb_push ?_
                                                    refine rb_iload rfl ?_
                                                    refine rb_binL (z := 24) (by decide) ?_
                                                    refine rb_iload rfl ?_
                                                    apply rb_callV2
                                                    case hb => exact rfl
                                                    case hcl => exact rfl
                                                    case hc =>
                                                      apply ex_X9_becomes
                                                      refine rn_step rfl ?_
                                                      refine rb_aload rfl ?_
                                                      refine rb_getf (v := .ref 69) rfl ?_
                                                      refine rb_iload rfl ?_
                                                      refine rb_iald rfl (by decide) (show _ = some (50) from rfl) ?_
                                                      refine rb_istore (lv' := [some (.ref 68), some (.int 24), some (.int (b)), some (.int 50)]) rfl ?_
                                                      refine rb_aload rfl ?_
                                                      refine rb_getf (v := .ref 69) rfl ?_
                                                      refine rb_iload rfl ?_
                                                      refine rb_iload rfl ?_
                                                      refine rb_iast rfl (by decide) (ok_lt (okA s1_ok (c := 8) (n := 24) (by decide) rfl (by decide) rfl) (c := 69) (n := 1461) (by decide) rfl (by decide) (by decide)) (wa_69 _ _) ?_
                                                      refine rb_iload rfl ?_
                                                      refine rb_ret rfl rfl
                                                    refine rb_goto ?_
                                                    refine rn_step rfl ?_
                                                    refine rb_ret rfl rfl
                                                  case h3 => exact (okL.sA (okA s1_ok (c := 8) (n := 24) (by decide) rfl (by decide) rfl) _ (List.length_set ..))
                                                  case h4 => exact rfl
                                                ·
                                                  rcases ia_cut (c := 21) hla hha with ⟨hla, hha⟩ | ⟨hla, hha⟩
                                                  ·
                                                    obtain rfl : a = 20 := ia_one hla hha (by decide) (by decide)
                                                    apply p1_intro (v := 50)
                                                    case h1 =>
                                                      apply ex_X8_want
                                                      refine rn_step rfl ?_
                                                      refine rb_iload rfl ?_
                                                      refine rb_push ?_
                                                      refine rb_push ?_
                                                      apply rb_callS3
                                                      case hcl => exact rfl
                                                      case hc =>
                                                        apply ex_X8_within
                                                        refine rn_step rfl ?_
                                                        refine rb_iload rfl ?_
                                                        refine rb_iload rfl ?_
                                                        refine rb_clt (fun h => absurd h (by decide)) (fun _ => ?_)
                                                        refine rb_iload rfl ?_
                                                        refine rb_iload rfl ?_
                                                        refine rb_cgt (fun h => absurd h (by decide)) (fun _ => ?_)
                                                        refine rb_push ?_
                                                        refine rb_goto ?_
                                                        refine rn_step rfl ?_
                                                        refine rb_ret rfl rfl
                                                      refine rb_ieq (fun h => absurd h (by decide)) (fun _ => ?_)
                                                      refine rb_iload rfl ?_
                                                      refine rb_push ?_
                                                      refine rb_push ?_
                                                      apply rb_callS3
                                                      case hcl => exact rfl
                                                      case hc =>
                                                        apply ex_X8_within
                                                        refine rn_step rfl ?_
                                                        refine rb_iload rfl ?_
                                                        refine rb_iload rfl ?_
                                                        refine rb_clt (fun h => absurd h (ia_nlt hlb (by decide))) (fun _ => ?_)
                                                        refine rb_iload rfl ?_
                                                        refine rb_iload rfl ?_
                                                        refine rb_cgt (fun h => absurd h (ia_ngt hhb (by decide))) (fun _ => ?_)
                                                        refine rb_push ?_
                                                        refine rb_goto ?_
                                                        refine rn_step rfl ?_
                                                        refine rb_ret rfl rfl
                                                      refine rb_ine (fun _ => ?_) (fun h => absurd (by decide) h)
                                                      refine rn_step rfl ?_
                                                      refine rb_aload rfl ?_
                                                      refine rb_getf (v := .ref 1) rfl ?_
                                                      refine rb_getf (v := .ref 8) rfl ?_
                                                      refine rb_iload rfl ?_
                                                      refine rb_iald rfl (by decide) (show _ = some (50) from rfl) ?_
                                                      refine rb_istore (lv' := [some (.ref 0), some (.int 20), some (.int (b)), some (.int 50)]) rfl ?_
                                                      refine rb_aload rfl ?_
                                                      refine rb_getf (v := .ref 1) rfl ?_
                                                      refine rb_getf (v := .ref 8) rfl ?_
                                                      refine rb_iload rfl ?_
                                                      refine rb_iload rfl ?_
                                                      refine rb_iastL (xs' := [50, 50, 50, 50, 50, 50, 50, 50, 50, 50, 50, 50, 50, 50, 50, 50, 50, 50, 50, 50, b, 50, 50, 50]) rfl (by decide) (ok_lt s1_ok (c := 8) (n := 24) (by decide) rfl (by decide) (by decide)) rfl (wa_8 _ _) ?_
                                                      refine rb_iload rfl ?_
                                                      refine rb_ret rfl rfl
                                                    case h2 =>
                                                      apply ex_X9_want
                                                      refine rn_step rfl ?_
                                                      refine rb_iload rfl ?_
                                                      refine rb_push ?_
                                                      refine rb_push ?_
                                                      apply rb_callS3
                                                      case hcl => exact rfl
                                                      case hc =>
                                                        apply ex_X9_in
                                                        refine rn_step rfl ?_
                                                        refine rb_iload rfl ?_
                                                        refine rb_iload rfl ?_
                                                        refine rb_clt (fun h => absurd h (by decide)) (fun _ => ?_)
                                                        refine rb_iload rfl ?_
                                                        refine rb_iload rfl ?_
                                                        refine rb_cgt (fun h => absurd h (by decide)) (fun _ => ?_)
                                                        refine rb_push ?_
                                                        refine rb_goto ?_
                                                        refine rn_step rfl ?_
                                                        refine rb_ret rfl rfl
                                                      refine rb_ieq (fun h => absurd h (by decide)) (fun _ => ?_)
                                                      refine rb_iload rfl ?_
                                                      refine rb_push ?_
                                                      refine rb_push ?_
                                                      apply rb_callS3
                                                      case hcl => exact rfl
                                                      case hc =>
                                                        apply ex_X9_in
                                                        refine rn_step rfl ?_
                                                        refine rb_iload rfl ?_
                                                        refine rb_iload rfl ?_
                                                        refine rb_clt (fun h => absurd h (ia_nlt hlb (by decide))) (fun _ => ?_)
                                                        refine rb_iload rfl ?_
                                                        refine rb_iload rfl ?_
                                                        refine rb_cgt (fun h => absurd h (ia_ngt hhb (by decide))) (fun _ => ?_)
                                                        refine rb_push ?_
                                                        refine rb_goto ?_
                                                        refine rn_step rfl ?_
                                                        refine rb_ret rfl rfl
                                                      refine rb_ieq (fun h => absurd h (by decide)) (fun _ => ?_)
                                                      refine rb_aload rfl ?_
                                                      refine rb_push ?_
                                                      refine rb_iload rfl ?_
                                                      refine rb_binL (z := 25) (by decide) ?_
                                                      refine rb_iload rfl ?_
                                                      apply rb_callV2
                                                      case hb => exact rfl
                                                      case hcl => exact rfl
                                                      case hc =>
                                                        apply ex_X9_becomes
                                                        refine rn_step rfl ?_
                                                        refine rb_aload rfl ?_
                                                        refine rb_getf (v := .ref 69) rfl ?_
                                                        refine rb_iload rfl ?_
                                                        refine rb_iald rfl (by decide) (show _ = some (50) from rfl) ?_
                                                        refine rb_istore (lv' := [some (.ref 68), some (.int 25), some (.int (b)), some (.int 50)]) rfl ?_
                                                        refine rb_aload rfl ?_
                                                        refine rb_getf (v := .ref 69) rfl ?_
                                                        refine rb_iload rfl ?_
                                                        refine rb_iload rfl ?_
                                                        refine rb_iast rfl (by decide) (ok_lt (okA s1_ok (c := 8) (n := 24) (by decide) rfl (by decide) rfl) (c := 69) (n := 1461) (by decide) rfl (by decide) (by decide)) (wa_69 _ _) ?_
                                                        refine rb_iload rfl ?_
                                                        refine rb_ret rfl rfl
                                                      refine rb_goto ?_
                                                      refine rn_step rfl ?_
                                                      refine rb_ret rfl rfl
                                                    case h3 => exact (okL.sA (okA s1_ok (c := 8) (n := 24) (by decide) rfl (by decide) rfl) _ (List.length_set ..))
                                                    case h4 => exact rfl
                                                  ·
                                                    rcases ia_cut (c := 22) hla hha with ⟨hla, hha⟩ | ⟨hla, hha⟩
                                                    ·
                                                      obtain rfl : a = 21 := ia_one hla hha (by decide) (by decide)
                                                      apply p1_intro (v := 50)
                                                      case h1 =>
                                                        apply ex_X8_want
                                                        refine rn_step rfl ?_
                                                        refine rb_iload rfl ?_
                                                        refine rb_push ?_
                                                        refine rb_push ?_
                                                        apply rb_callS3
                                                        case hcl => exact rfl
                                                        case hc =>
                                                          apply ex_X8_within
                                                          refine rn_step rfl ?_
                                                          refine rb_iload rfl ?_
                                                          refine rb_iload rfl ?_
                                                          refine rb_clt (fun h => absurd h (by decide)) (fun _ => ?_)
                                                          refine rb_iload rfl ?_
                                                          refine rb_iload rfl ?_
                                                          refine rb_cgt (fun h => absurd h (by decide)) (fun _ => ?_)
                                                          refine rb_push ?_
                                                          refine rb_goto ?_
                                                          refine rn_step rfl ?_
                                                          refine rb_ret rfl rfl
                                                        refine rb_ieq (fun h => absurd h (by decide)) (fun _ => ?_)
                                                        refine rb_iload rfl ?_
                                                        refine rb_push ?_
                                                        refine rb_push ?_
                                                        apply rb_callS3
                                                        case hcl => exact rfl
                                                        case hc =>
                                                          apply ex_X8_within
                                                          refine rn_step rfl ?_
                                                          refine rb_iload rfl ?_
                                                          refine rb_iload rfl ?_
                                                          refine rb_clt (fun h => absurd h (ia_nlt hlb (by decide))) (fun _ => ?_)
                                                          refine rb_iload rfl ?_
                                                          refine rb_iload rfl ?_
                                                          refine rb_cgt (fun h => absurd h (ia_ngt hhb (by decide))) (fun _ => ?_)
                                                          refine rb_push ?_
                                                          refine rb_goto ?_
                                                          refine rn_step rfl ?_
                                                          refine rb_ret rfl rfl
                                                        refine rb_ine (fun _ => ?_) (fun h => absurd (by decide) h)
                                                        refine rn_step rfl ?_
                                                        refine rb_aload rfl ?_
                                                        refine rb_getf (v := .ref 1) rfl ?_
                                                        refine rb_getf (v := .ref 8) rfl ?_
                                                        refine rb_iload rfl ?_
                                                        refine rb_iald rfl (by decide) (show _ = some (50) from rfl) ?_
                                                        refine rb_istore (lv' := [some (.ref 0), some (.int 21), some (.int (b)), some (.int 50)]) rfl ?_
                                                        refine rb_aload rfl ?_
                                                        refine rb_getf (v := .ref 1) rfl ?_
                                                        refine rb_getf (v := .ref 8) rfl ?_
                                                        refine rb_iload rfl ?_
                                                        refine rb_iload rfl ?_
                                                        refine rb_iastL (xs' := [50, 50, 50, 50, 50, 50, 50, 50, 50, 50, 50, 50, 50, 50, 50, 50, 50, 50, 50, 50, 50, b, 50, 50]) rfl (by decide) (ok_lt s1_ok (c := 8) (n := 24) (by decide) rfl (by decide) (by decide)) rfl (wa_8 _ _) ?_
                                                        refine rb_iload rfl ?_
                                                        refine rb_ret rfl rfl
                                                      case h2 =>
                                                        apply ex_X9_want
                                                        refine rn_step rfl ?_
                                                        refine rb_iload rfl ?_
                                                        refine rb_push ?_
                                                        refine rb_push ?_
                                                        apply rb_callS3
                                                        case hcl => exact rfl
                                                        case hc =>
                                                          apply ex_X9_in
                                                          refine rn_step rfl ?_
                                                          refine rb_iload rfl ?_
                                                          refine rb_iload rfl ?_
                                                          refine rb_clt (fun h => absurd h (by decide)) (fun _ => ?_)
                                                          refine rb_iload rfl ?_
                                                          refine rb_iload rfl ?_
                                                          refine rb_cgt (fun h => absurd h (by decide)) (fun _ => ?_)
                                                          refine rb_push ?_
                                                          refine rb_goto ?_
                                                          refine rn_step rfl ?_
                                                          refine rb_ret rfl rfl
                                                        refine rb_ieq (fun h => absurd h (by decide)) (fun _ => ?_)
                                                        refine rb_iload rfl ?_
                                                        refine rb_push ?_
                                                        refine rb_push ?_
                                                        apply rb_callS3
                                                        case hcl => exact rfl
                                                        case hc =>
                                                          apply ex_X9_in
                                                          refine rn_step rfl ?_
                                                          refine rb_iload rfl ?_
                                                          refine rb_iload rfl ?_
                                                          refine rb_clt (fun h => absurd h (ia_nlt hlb (by decide))) (fun _ => ?_)
                                                          refine rb_iload rfl ?_
                                                          refine rb_iload rfl ?_
                                                          refine rb_cgt (fun h => absurd h (ia_ngt hhb (by decide))) (fun _ => ?_)
                                                          refine rb_push ?_
                                                          refine rb_goto ?_
                                                          refine rn_step rfl ?_
                                                          refine rb_ret rfl rfl
                                                        refine rb_ieq (fun h => absurd h (by decide)) (fun _ => ?_)
                                                        refine rb_aload rfl ?_
                                                        refine rb_push ?_
                                                        refine rb_iload rfl ?_
                                                        refine rb_binL (z := 26) (by decide) ?_
                                                        refine rb_iload rfl ?_
                                                        apply rb_callV2
                                                        case hb => exact rfl
                                                        case hcl => exact rfl
                                                        case hc =>
                                                          apply ex_X9_becomes
                                                          refine rn_step rfl ?_
                                                          refine rb_aload rfl ?_
                                                          refine rb_getf (v := .ref 69) rfl ?_
                                                          refine rb_iload rfl ?_
                                                          refine rb_iald rfl (by decide) (show _ = some (50) from rfl) ?_
                                                          refine rb_istore (lv' := [some (.ref 68), some (.int 26), some (.int (b)), some (.int 50)]) rfl ?_
                                                          refine rb_aload rfl ?_
                                                          refine rb_getf (v := .ref 69) rfl ?_
                                                          refine rb_iload rfl ?_
                                                          refine rb_iload rfl ?_
                                                          refine rb_iast rfl (by decide) (ok_lt (okA s1_ok (c := 8) (n := 24) (by decide) rfl (by decide) rfl) (c := 69) (n := 1461) (by decide) rfl (by decide) (by decide)) (wa_69 _ _) ?_
                                                          refine rb_iload rfl ?_
                                                          refine rb_ret rfl rfl
                                                        refine rb_goto ?_
                                                        refine rn_step rfl ?_
                                                        refine rb_ret rfl rfl
                                                      case h3 => exact (okL.sA (okA s1_ok (c := 8) (n := 24) (by decide) rfl (by decide) rfl) _ (List.length_set ..))
                                                      case h4 => exact rfl
                                                    ·
                                                      rcases ia_cut (c := 23) hla hha with ⟨hla, hha⟩ | ⟨hla, hha⟩
                                                      ·
                                                        obtain rfl : a = 22 := ia_one hla hha (by decide) (by decide)
                                                        apply p1_intro (v := 50)
                                                        case h1 =>
                                                          apply ex_X8_want
                                                          refine rn_step rfl ?_
                                                          refine rb_iload rfl ?_
                                                          refine rb_push ?_
                                                          refine rb_push ?_
                                                          apply rb_callS3
                                                          case hcl => exact rfl
                                                          case hc =>
                                                            apply ex_X8_within
                                                            refine rn_step rfl ?_
                                                            refine rb_iload rfl ?_
                                                            refine rb_iload rfl ?_
                                                            refine rb_clt (fun h => absurd h (by decide)) (fun _ => ?_)
                                                            refine rb_iload rfl ?_
                                                            refine rb_iload rfl ?_
                                                            refine rb_cgt (fun h => absurd h (by decide)) (fun _ => ?_)
                                                            refine rb_push ?_
                                                            refine rb_goto ?_
                                                            refine rn_step rfl ?_
                                                            refine rb_ret rfl rfl
                                                          refine rb_ieq (fun h => absurd h (by decide)) (fun _ => ?_)
                                                          refine rb_iload rfl ?_
                                                          refine rb_push ?_
                                                          refine rb_push ?_
                                                          apply rb_callS3
                                                          case hcl => exact rfl
                                                          case hc =>
                                                            apply ex_X8_within
                                                            refine rn_step rfl ?_
                                                            refine rb_iload rfl ?_
                                                            refine rb_iload rfl ?_
                                                            refine rb_clt (fun h => absurd h (ia_nlt hlb (by decide))) (fun _ => ?_)
                                                            refine rb_iload rfl ?_
                                                            refine rb_iload rfl ?_
                                                            refine rb_cgt (fun h => absurd h (ia_ngt hhb (by decide))) (fun _ => ?_)
                                                            refine rb_push ?_
                                                            refine rb_goto ?_
                                                            refine rn_step rfl ?_
                                                            refine rb_ret rfl rfl
                                                          refine rb_ine (fun _ => ?_) (fun h => absurd (by decide) h)
                                                          refine rn_step rfl ?_
                                                          refine rb_aload rfl ?_
                                                          refine rb_getf (v := .ref 1) rfl ?_
                                                          refine rb_getf (v := .ref 8) rfl ?_
                                                          refine rb_iload rfl ?_
                                                          refine rb_iald rfl (by decide) (show _ = some (50) from rfl) ?_
                                                          refine rb_istore (lv' := [some (.ref 0), some (.int 22), some (.int (b)), some (.int 50)]) rfl ?_
                                                          refine rb_aload rfl ?_
                                                          refine rb_getf (v := .ref 1) rfl ?_
                                                          refine rb_getf (v := .ref 8) rfl ?_
                                                          refine rb_iload rfl ?_
                                                          refine rb_iload rfl ?_
                                                          refine rb_iastL (xs' := [50, 50, 50, 50, 50, 50, 50, 50, 50, 50, 50, 50, 50, 50, 50, 50, 50, 50, 50, 50, 50, 50, b, 50]) rfl (by decide) (ok_lt s1_ok (c := 8) (n := 24) (by decide) rfl (by decide) (by decide)) rfl (wa_8 _ _) ?_
                                                          refine rb_iload rfl ?_
                                                          refine rb_ret rfl rfl
                                                        case h2 =>
                                                          apply ex_X9_want
                                                          refine rn_step rfl ?_
                                                          refine rb_iload rfl ?_
                                                          refine rb_push ?_
                                                          refine rb_push ?_
                                                          apply rb_callS3
                                                          case hcl => exact rfl
                                                          case hc =>
                                                            apply ex_X9_in
                                                            refine rn_step rfl ?_
                                                            refine rb_iload rfl ?_
                                                            refine rb_iload rfl ?_
                                                            refine rb_clt (fun h => absurd h (by decide)) (fun _ => ?_)
                                                            refine rb_iload rfl ?_
                                                            refine rb_iload rfl ?_
                                                            refine rb_cgt (fun h => absurd h (by decide)) (fun _ => ?_)
                                                            refine rb_push ?_
                                                            refine rb_goto ?_
                                                            refine rn_step rfl ?_
                                                            refine rb_ret rfl rfl
                                                          refine rb_ieq (fun h => absurd h (by decide)) (fun _ => ?_)
                                                          refine rb_iload rfl ?_
                                                          refine rb_push ?_
                                                          refine rb_push ?_
                                                          apply rb_callS3
                                                          case hcl => exact rfl
                                                          case hc =>
                                                            apply ex_X9_in
                                                            refine rn_step rfl ?_
                                                            refine rb_iload rfl ?_
                                                            refine rb_iload rfl ?_
                                                            refine rb_clt (fun h => absurd h (ia_nlt hlb (by decide))) (fun _ => ?_)
                                                            refine rb_iload rfl ?_
                                                            refine rb_iload rfl ?_
                                                            refine rb_cgt (fun h => absurd h (ia_ngt hhb (by decide))) (fun _ => ?_)
                                                            refine rb_push ?_
                                                            refine rb_goto ?_
                                                            refine rn_step rfl ?_
                                                            refine rb_ret rfl rfl
                                                          refine rb_ieq (fun h => absurd h (by decide)) (fun _ => ?_)
                                                          refine rb_aload rfl ?_
                                                          refine rb_push ?_
                                                          refine rb_iload rfl ?_
                                                          refine rb_binL (z := 27) (by decide) ?_
                                                          refine rb_iload rfl ?_
                                                          apply rb_callV2
                                                          case hb => exact rfl
                                                          case hcl => exact rfl
                                                          case hc =>
                                                            apply ex_X9_becomes
                                                            refine rn_step rfl ?_
                                                            refine rb_aload rfl ?_
                                                            refine rb_getf (v := .ref 69) rfl ?_
                                                            refine rb_iload rfl ?_
                                                            refine rb_iald rfl (by decide) (show _ = some (50) from rfl) ?_
                                                            refine rb_istore (lv' := [some (.ref 68), some (.int 27), some (.int (b)), some (.int 50)]) rfl ?_
                                                            refine rb_aload rfl ?_
                                                            refine rb_getf (v := .ref 69) rfl ?_
                                                            refine rb_iload rfl ?_
                                                            refine rb_iload rfl ?_
                                                            refine rb_iast rfl (by decide) (ok_lt (okA s1_ok (c := 8) (n := 24) (by decide) rfl (by decide) rfl) (c := 69) (n := 1461) (by decide) rfl (by decide) (by decide)) (wa_69 _ _) ?_
                                                            refine rb_iload rfl ?_
                                                            refine rb_ret rfl rfl
                                                          refine rb_goto ?_
                                                          refine rn_step rfl ?_
                                                          refine rb_ret rfl rfl
                                                        case h3 => exact (okL.sA (okA s1_ok (c := 8) (n := 24) (by decide) rfl (by decide) rfl) _ (List.length_set ..))
                                                        case h4 => exact rfl
                                                      ·
                                                        obtain rfl : a = 23 := ia_one hla hha (by decide) (by decide)
                                                        apply p1_intro (v := 50)
                                                        case h1 =>
                                                          apply ex_X8_want
                                                          refine rn_step rfl ?_
                                                          refine rb_iload rfl ?_
                                                          refine rb_push ?_
                                                          refine rb_push ?_
                                                          apply rb_callS3
                                                          case hcl => exact rfl
                                                          case hc =>
                                                            apply ex_X8_within
                                                            refine rn_step rfl ?_
                                                            refine rb_iload rfl ?_
                                                            refine rb_iload rfl ?_
                                                            refine rb_clt (fun h => absurd h (by decide)) (fun _ => ?_)
                                                            refine rb_iload rfl ?_
                                                            refine rb_iload rfl ?_
                                                            refine rb_cgt (fun h => absurd h (by decide)) (fun _ => ?_)
                                                            refine rb_push ?_
                                                            refine rb_goto ?_
                                                            refine rn_step rfl ?_
                                                            refine rb_ret rfl rfl
                                                          refine rb_ieq (fun h => absurd h (by decide)) (fun _ => ?_)
                                                          refine rb_iload rfl ?_
                                                          refine rb_push ?_
                                                          refine rb_push ?_
                                                          apply rb_callS3
                                                          case hcl => exact rfl
                                                          case hc =>
                                                            apply ex_X8_within
                                                            refine rn_step rfl ?_
                                                            refine rb_iload rfl ?_
                                                            refine rb_iload rfl ?_
                                                            refine rb_clt (fun h => absurd h (ia_nlt hlb (by decide))) (fun _ => ?_)
                                                            refine rb_iload rfl ?_
                                                            refine rb_iload rfl ?_
                                                            refine rb_cgt (fun h => absurd h (ia_ngt hhb (by decide))) (fun _ => ?_)
                                                            refine rb_push ?_
                                                            refine rb_goto ?_
                                                            refine rn_step rfl ?_
                                                            refine rb_ret rfl rfl
                                                          refine rb_ine (fun _ => ?_) (fun h => absurd (by decide) h)
                                                          refine rn_step rfl ?_
                                                          refine rb_aload rfl ?_
                                                          refine rb_getf (v := .ref 1) rfl ?_
                                                          refine rb_getf (v := .ref 8) rfl ?_
                                                          refine rb_iload rfl ?_
                                                          refine rb_iald rfl (by decide) (show _ = some (50) from rfl) ?_
                                                          refine rb_istore (lv' := [some (.ref 0), some (.int 23), some (.int (b)), some (.int 50)]) rfl ?_
                                                          refine rb_aload rfl ?_
                                                          refine rb_getf (v := .ref 1) rfl ?_
                                                          refine rb_getf (v := .ref 8) rfl ?_
                                                          refine rb_iload rfl ?_
                                                          refine rb_iload rfl ?_
                                                          refine rb_iastL (xs' := [50, 50, 50, 50, 50, 50, 50, 50, 50, 50, 50, 50, 50, 50, 50, 50, 50, 50, 50, 50, 50, 50, 50, b]) rfl (by decide) (ok_lt s1_ok (c := 8) (n := 24) (by decide) rfl (by decide) (by decide)) rfl (wa_8 _ _) ?_
                                                          refine rb_iload rfl ?_
                                                          refine rb_ret rfl rfl
                                                        case h2 =>
                                                          apply ex_X9_want
                                                          refine rn_step rfl ?_
                                                          refine rb_iload rfl ?_
                                                          refine rb_push ?_
                                                          refine rb_push ?_
                                                          apply rb_callS3
                                                          case hcl => exact rfl
                                                          case hc =>
                                                            apply ex_X9_in
                                                            refine rn_step rfl ?_
                                                            refine rb_iload rfl ?_
                                                            refine rb_iload rfl ?_
                                                            refine rb_clt (fun h => absurd h (by decide)) (fun _ => ?_)
                                                            refine rb_iload rfl ?_
                                                            refine rb_iload rfl ?_
                                                            refine rb_cgt (fun h => absurd h (by decide)) (fun _ => ?_)
                                                            refine rb_push ?_
                                                            refine rb_goto ?_
                                                            refine rn_step rfl ?_
                                                            refine rb_ret rfl rfl
                                                          refine rb_ieq (fun h => absurd h (by decide)) (fun _ => ?_)
                                                          refine rb_iload rfl ?_
                                                          refine rb_push ?_
                                                          refine rb_push ?_
                                                          apply rb_callS3
                                                          case hcl => exact rfl
                                                          case hc =>
                                                            apply ex_X9_in
                                                            refine rn_step rfl ?_
                                                            refine rb_iload rfl ?_
                                                            refine rb_iload rfl ?_
                                                            refine rb_clt (fun h => absurd h (ia_nlt hlb (by decide))) (fun _ => ?_)
                                                            refine rb_iload rfl ?_
                                                            refine rb_iload rfl ?_
                                                            refine rb_cgt (fun h => absurd h (ia_ngt hhb (by decide))) (fun _ => ?_)
                                                            refine rb_push ?_
                                                            refine rb_goto ?_
                                                            refine rn_step rfl ?_
                                                            refine rb_ret rfl rfl
                                                          refine rb_ieq (fun h => absurd h (by decide)) (fun _ => ?_)
                                                          refine rb_aload rfl ?_
                                                          refine rb_push ?_
                                                          refine rb_iload rfl ?_
                                                          refine rb_binL (z := 28) (by decide) ?_
                                                          refine rb_iload rfl ?_
                                                          apply rb_callV2
                                                          case hb => exact rfl
                                                          case hcl => exact rfl
                                                          case hc =>
                                                            apply ex_X9_becomes
                                                            refine rn_step rfl ?_
                                                            refine rb_aload rfl ?_
                                                            refine rb_getf (v := .ref 69) rfl ?_
                                                            refine rb_iload rfl ?_
                                                            refine rb_iald rfl (by decide) (show _ = some (50) from rfl) ?_
                                                            refine rb_istore (lv' := [some (.ref 68), some (.int 28), some (.int (b)), some (.int 50)]) rfl ?_
                                                            refine rb_aload rfl ?_
                                                            refine rb_getf (v := .ref 69) rfl ?_
                                                            refine rb_iload rfl ?_
                                                            refine rb_iload rfl ?_
                                                            refine rb_iast rfl (by decide) (ok_lt (okA s1_ok (c := 8) (n := 24) (by decide) rfl (by decide) rfl) (c := 69) (n := 1461) (by decide) rfl (by decide) (by decide)) (wa_69 _ _) ?_
                                                            refine rb_iload rfl ?_
                                                            refine rb_ret rfl rfl
                                                          refine rb_goto ?_
                                                          refine rn_step rfl ?_
                                                          refine rb_ret rfl rfl
                                                        case h3 => exact (okL.sA (okA s1_ok (c := 8) (n := 24) (by decide) rfl (by decide) rfl) _ (List.length_set ..))
                                                        case h4 => exact rfl
        ·
          apply p1_intro (v := (-1000000001))
          case h1 =>
            apply ex_X8_want
            refine rn_step rfl ?_
            refine rb_iload rfl ?_
            refine rb_push ?_
            refine rb_push ?_
            apply rb_callS3
            case hcl => exact rfl
            case hc =>
              apply ex_X8_within
              refine rn_step rfl ?_
              refine rb_iload rfl ?_
              refine rb_iload rfl ?_
              refine rb_clt (fun h => absurd h (ia_nlt hla (by decide))) (fun _ => ?_)
              refine rb_iload rfl ?_
              refine rb_iload rfl ?_
              refine rb_cgt (fun h => absurd h (ia_ngt hha (by decide))) (fun _ => ?_)
              refine rb_push ?_
              refine rb_goto ?_
              refine rn_step rfl ?_
              refine rb_ret rfl rfl
            refine rb_ieq (fun h => absurd h (by decide)) (fun _ => ?_)
            refine rb_iload rfl ?_
            refine rb_push ?_
            refine rb_push ?_
            apply rb_callS3
            case hcl => exact rfl
            case hc =>
              apply ex_X8_within
              refine rn_step rfl ?_
              refine rb_iload rfl ?_
              refine rb_iload rfl ?_
              refine rb_clt (fun h => absurd h (ia_nlt hlb (by decide))) (fun _ => ?_)
              refine rb_iload rfl ?_
              refine rb_iload rfl ?_
              refine rb_cgt (fun _ => ?_) (fun h => absurd (ia_gt hlb (by decide)) h)
              refine rn_step rfl ?_
              refine rb_push ?_
              refine rb_goto ?_
              refine rn_step rfl ?_
              refine rb_ret rfl rfl
            refine rb_ine (fun h => absurd (by decide) h) (fun _ => ?_)
            refine rb_goto ?_
            refine rn_step rfl ?_
            refine rb_push ?_
            refine rb_ret rfl rfl
          case h2 =>
            apply ex_X9_want
            refine rn_step rfl ?_
            refine rb_iload rfl ?_
            refine rb_push ?_
            refine rb_push ?_
            apply rb_callS3
            case hcl => exact rfl
            case hc =>
              apply ex_X9_in
              refine rn_step rfl ?_
              refine rb_iload rfl ?_
              refine rb_iload rfl ?_
              refine rb_clt (fun h => absurd h (ia_nlt hla (by decide))) (fun _ => ?_)
              refine rb_iload rfl ?_
              refine rb_iload rfl ?_
              refine rb_cgt (fun h => absurd h (ia_ngt hha (by decide))) (fun _ => ?_)
              refine rb_push ?_
              refine rb_goto ?_
              refine rn_step rfl ?_
              refine rb_ret rfl rfl
            refine rb_ieq (fun h => absurd h (by decide)) (fun _ => ?_)
            refine rb_iload rfl ?_
            refine rb_push ?_
            refine rb_push ?_
            apply rb_callS3
            case hcl => exact rfl
            case hc =>
              apply ex_X9_in
              refine rn_step rfl ?_
              refine rb_iload rfl ?_
              refine rb_iload rfl ?_
              refine rb_clt (fun h => absurd h (ia_nlt hlb (by decide))) (fun _ => ?_)
              refine rb_iload rfl ?_
              refine rb_iload rfl ?_
              refine rb_cgt (fun _ => ?_) (fun h => absurd (ia_gt hlb (by decide)) h)
              refine rn_step rfl ?_
              refine rb_push ?_
              refine rb_goto ?_
              refine rn_step rfl ?_
              refine rb_ret rfl rfl
            refine rb_ieq (fun _ => ?_) (fun h => absurd (by decide) h)
            refine rn_step rfl ?_
            refine rb_push ?_
            refine rb_goto ?_
            refine rn_step rfl ?_
            refine rb_ret rfl rfl
          case h3 => exact s1_ok
          case h4 => exact rfl
    ·
      apply p1_intro (v := (-1000000001))
      case h1 =>
        apply ex_X8_want
        refine rn_step rfl ?_
        refine rb_iload rfl ?_
        refine rb_push ?_
        refine rb_push ?_
        apply rb_callS3
        case hcl => exact rfl
        case hc =>
          apply ex_X8_within
          refine rn_step rfl ?_
          refine rb_iload rfl ?_
          refine rb_iload rfl ?_
          refine rb_clt (fun h => absurd h (ia_nlt hla (by decide))) (fun _ => ?_)
          refine rb_iload rfl ?_
          refine rb_iload rfl ?_
          refine rb_cgt (fun _ => ?_) (fun h => absurd (ia_gt hla (by decide)) h)
          refine rn_step rfl ?_
          refine rb_push ?_
          refine rb_goto ?_
          refine rn_step rfl ?_
          refine rb_ret rfl rfl
        refine rb_ieq (fun _ => ?_) (fun h => absurd (by decide) h)
        refine rn_step rfl ?_
        refine rb_push ?_
        refine rb_ret rfl rfl
      case h2 =>
        apply ex_X9_want
        refine rn_step rfl ?_
        refine rb_iload rfl ?_
        refine rb_push ?_
        refine rb_push ?_
        apply rb_callS3
        case hcl => exact rfl
        case hc =>
          apply ex_X9_in
          refine rn_step rfl ?_
          refine rb_iload rfl ?_
          refine rb_iload rfl ?_
          refine rb_clt (fun h => absurd h (ia_nlt hla (by decide))) (fun _ => ?_)
          refine rb_iload rfl ?_
          refine rb_iload rfl ?_
          refine rb_cgt (fun _ => ?_) (fun h => absurd (ia_gt hla (by decide)) h)
          refine rn_step rfl ?_
          refine rb_push ?_
          refine rb_goto ?_
          refine rn_step rfl ?_
          refine rb_ret rfl rfl
        refine rb_ieq (fun _ => ?_) (fun h => absurd (by decide) h)
        refine rn_step rfl ?_
        refine rb_push ?_
        refine rb_goto ?_
        refine rn_step rfl ?_
        refine rb_ret rfl rfl
      case h3 => exact s1_ok
      case h4 => exact rfl
set_option maxRecDepth 1000000 in
set_option maxHeartbeats 40000000 in
theorem p1_wind (a : Int32) : P1 83 153 [.int a] := by
  have hla : -2147483648 ≤ a.toInt := ia_lo a
  have hha : a.toInt ≤ 2147483647 := ia_hi a
  rcases ia_cut (c := 0) hla hha with ⟨hla, hha⟩ | ⟨hla, hha⟩
  ·
    apply p1_intro (v := (-1000000001))
    case h1 =>
      apply ex_X8_wind
      refine rn_step rfl ?_
      refine rb_iload rfl ?_
      refine rb_push ?_
      refine rb_push ?_
      apply rb_callS3
      case hcl => exact rfl
      case hc =>
        apply ex_X8_within
        refine rn_step rfl ?_
        refine rb_iload rfl ?_
        refine rb_iload rfl ?_
        refine rb_clt (fun _ => ?_) (fun h => absurd (ia_lt hha (by decide)) h)
        refine rn_step rfl ?_
        refine rb_push ?_
        refine rb_goto ?_
        refine rn_step rfl ?_
        refine rb_ret rfl rfl
      refine rb_ine (fun h => absurd (by decide) h) (fun _ => ?_)
      refine rb_push ?_
      refine rb_ret rfl rfl
    case h2 =>
      apply ex_X9_wind
      refine rn_step rfl ?_
      refine rb_iload rfl ?_
      refine rb_push ?_
      refine rb_push ?_
      apply rb_callS3
      case hcl => exact rfl
      case hc =>
        apply ex_X9_in
        refine rn_step rfl ?_
        refine rb_iload rfl ?_
        refine rb_iload rfl ?_
        refine rb_clt (fun _ => ?_) (fun h => absurd (ia_lt hha (by decide)) h)
        refine rn_step rfl ?_
        refine rb_push ?_
        refine rb_goto ?_
        refine rn_step rfl ?_
        refine rb_ret rfl rfl
      refine rb_ieq (fun _ => ?_) (fun h => absurd (by decide) h)
      refine rn_step rfl ?_
      refine rb_push ?_
      refine rb_goto ?_
      refine rn_step rfl ?_
      refine rb_ret rfl rfl
    case h3 => exact s1_ok
    case h4 => exact rfl
  ·
    rcases ia_cut (c := 101) hla hha with ⟨hla, hha⟩ | ⟨hla, hha⟩
    ·
      apply p1_intro (v := 0)
      case h1 =>
        apply ex_X8_wind
        refine rn_step rfl ?_
        refine rb_iload rfl ?_
        refine rb_push ?_
        refine rb_push ?_
        apply rb_callS3
        case hcl => exact rfl
        case hc =>
          apply ex_X8_within
          refine rn_step rfl ?_
          refine rb_iload rfl ?_
          refine rb_iload rfl ?_
          refine rb_clt (fun h => absurd h (ia_nlt hla (by decide))) (fun _ => ?_)
          refine rb_iload rfl ?_
          refine rb_iload rfl ?_
          refine rb_cgt (fun h => absurd h (ia_ngt hha (by decide))) (fun _ => ?_)
          refine rb_push ?_
          refine rb_goto ?_
          refine rn_step rfl ?_
          refine rb_ret rfl rfl
        refine rb_ine (fun _ => ?_) (fun h => absurd (by decide) h)
        refine rn_step rfl ?_
        refine rb_aload rfl ?_
        refine rb_getf (v := .ref 1) rfl ?_
        refine rb_getf (v := .int 0) rfl ?_
        refine rb_istore (lv' := [some (.ref 0), some (.int (a)), some (.int 0)]) rfl ?_
        refine rb_aload rfl ?_
        refine rb_getf (v := .ref 1) rfl ?_
        refine rb_iload rfl ?_
        refine rb_putI (pf_1_12 _ _) ?_
        refine rb_iload rfl ?_
        refine rb_ret rfl rfl
      case h2 =>
        apply ex_X9_wind
        refine rn_step rfl ?_
        refine rb_iload rfl ?_
        refine rb_push ?_
        refine rb_push ?_
        apply rb_callS3
        case hcl => exact rfl
        case hc =>
          apply ex_X9_in
          refine rn_step rfl ?_
          refine rb_iload rfl ?_
          refine rb_iload rfl ?_
          refine rb_clt (fun h => absurd h (ia_nlt hla (by decide))) (fun _ => ?_)
          refine rb_iload rfl ?_
          refine rb_iload rfl ?_
          refine rb_cgt (fun h => absurd h (ia_ngt hha (by decide))) (fun _ => ?_)
          refine rb_push ?_
          refine rb_goto ?_
          refine rn_step rfl ?_
          refine rb_ret rfl rfl
        refine rb_ieq (fun h => absurd h (by decide)) (fun _ => ?_)
        refine rb_aload rfl ?_
        refine rb_push ?_
        refine rb_iload rfl ?_
        apply rb_callV2
        case hb => exact rfl
        case hcl => exact rfl
        case hc =>
          apply ex_X9_becomes
          refine rn_step rfl ?_
          refine rb_aload rfl ?_
          refine rb_getf (v := .ref 69) rfl ?_
          refine rb_iload rfl ?_
          refine rb_iald rfl (by decide) (show _ = some (0) from rfl) ?_
          refine rb_istore (lv' := [some (.ref 68), some (.int 3), some (.int (a)), some (.int 0)]) rfl ?_
          refine rb_aload rfl ?_
          refine rb_getf (v := .ref 69) rfl ?_
          refine rb_iload rfl ?_
          refine rb_iload rfl ?_
          refine rb_iast rfl (by decide) (ok_lt (okL.sI s1_ok _ _ _) (c := 69) (n := 1461) (by decide) rfl (by decide) (by decide)) (wa_69 _ _) ?_
          refine rb_iload rfl ?_
          refine rb_ret rfl rfl
        refine rb_goto ?_
        refine rn_step rfl ?_
        refine rb_ret rfl rfl
      case h3 => exact (okL.sA (okL.sI s1_ok _ _ _) _ (List.length_set ..))
      case h4 => exact rfl
    ·
      apply p1_intro (v := (-1000000001))
      case h1 =>
        apply ex_X8_wind
        refine rn_step rfl ?_
        refine rb_iload rfl ?_
        refine rb_push ?_
        refine rb_push ?_
        apply rb_callS3
        case hcl => exact rfl
        case hc =>
          apply ex_X8_within
          refine rn_step rfl ?_
          refine rb_iload rfl ?_
          refine rb_iload rfl ?_
          refine rb_clt (fun h => absurd h (ia_nlt hla (by decide))) (fun _ => ?_)
          refine rb_iload rfl ?_
          refine rb_iload rfl ?_
          refine rb_cgt (fun _ => ?_) (fun h => absurd (ia_gt hla (by decide)) h)
          refine rn_step rfl ?_
          refine rb_push ?_
          refine rb_goto ?_
          refine rn_step rfl ?_
          refine rb_ret rfl rfl
        refine rb_ine (fun h => absurd (by decide) h) (fun _ => ?_)
        refine rb_push ?_
        refine rb_ret rfl rfl
      case h2 =>
        apply ex_X9_wind
        refine rn_step rfl ?_
        refine rb_iload rfl ?_
        refine rb_push ?_
        refine rb_push ?_
        apply rb_callS3
        case hcl => exact rfl
        case hc =>
          apply ex_X9_in
          refine rn_step rfl ?_
          refine rb_iload rfl ?_
          refine rb_iload rfl ?_
          refine rb_clt (fun h => absurd h (ia_nlt hla (by decide))) (fun _ => ?_)
          refine rb_iload rfl ?_
          refine rb_iload rfl ?_
          refine rb_cgt (fun _ => ?_) (fun h => absurd (ia_gt hla (by decide)) h)
          refine rn_step rfl ?_
          refine rb_push ?_
          refine rb_goto ?_
          refine rn_step rfl ?_
          refine rb_ret rfl rfl
        refine rb_ieq (fun _ => ?_) (fun h => absurd (by decide) h)
        refine rn_step rfl ?_
        refine rb_push ?_
        refine rb_goto ?_
        refine rn_step rfl ?_
        refine rb_ret rfl rfl
      case h3 => exact s1_ok
      case h4 => exact rfl
set_option maxRecDepth 1000000 in
set_option maxHeartbeats 40000000 in
theorem p1_deal (a : Int32) : P1 84 155 [.int a] := by
  have hla : -2147483648 ≤ a.toInt := ia_lo a
  have hha : a.toInt ≤ 2147483647 := ia_hi a
  rcases ia_cut (c := 1) hla hha with ⟨hla, hha⟩ | ⟨hla, hha⟩
  ·
    apply p1_intro (v := (-1000000001))
    case h1 =>
      apply ex_X8_deal
      refine rn_step rfl ?_
      refine rb_iload rfl ?_
      refine rb_push ?_
      refine rb_push ?_
      apply rb_callS3
      case hcl => exact rfl
      case hc =>
        apply ex_X8_within
        refine rn_step rfl ?_
        refine rb_iload rfl ?_
        refine rb_iload rfl ?_
        refine rb_clt (fun _ => ?_) (fun h => absurd (ia_lt hha (by decide)) h)
        refine rn_step rfl ?_
        refine rb_push ?_
        refine rb_goto ?_
        refine rn_step rfl ?_
        refine rb_ret rfl rfl
      refine rb_ine (fun h => absurd (by decide) h) (fun _ => ?_)
      refine rb_push ?_
      refine rb_ret rfl rfl
    case h2 =>
      apply ex_X9_deal
      refine rn_step rfl ?_
      refine rb_iload rfl ?_
      refine rb_push ?_
      refine rb_push ?_
      apply rb_callS3
      case hcl => exact rfl
      case hc =>
        apply ex_X9_in
        refine rn_step rfl ?_
        refine rb_iload rfl ?_
        refine rb_iload rfl ?_
        refine rb_clt (fun _ => ?_) (fun h => absurd (ia_lt hha (by decide)) h)
        refine rn_step rfl ?_
        refine rb_push ?_
        refine rb_goto ?_
        refine rn_step rfl ?_
        refine rb_ret rfl rfl
      refine rb_ine (fun h => absurd (by decide) h) (fun _ => ?_)
      refine rb_push ?_
      refine rb_ret rfl rfl
    case h3 => exact s1_ok
    case h4 => exact rfl
  ·
    rcases ia_cut (c := 13) hla hha with ⟨hla, hha⟩ | ⟨hla, hha⟩
    ·
      rcases ia_cut (c := 2) hla hha with ⟨hla, hha⟩ | ⟨hla, hha⟩
      ·
        obtain rfl : a = 1 := ia_one hla hha (by decide) (by decide)
        exact ck_ok (by decide +kernel)
      ·
        rcases ia_cut (c := 3) hla hha with ⟨hla, hha⟩ | ⟨hla, hha⟩
        ·
          obtain rfl : a = 2 := ia_one hla hha (by decide) (by decide)
          exact ck_ok (by decide +kernel)
        ·
          rcases ia_cut (c := 4) hla hha with ⟨hla, hha⟩ | ⟨hla, hha⟩
          ·
            obtain rfl : a = 3 := ia_one hla hha (by decide) (by decide)
            exact ck_ok (by decide +kernel)
          ·
            rcases ia_cut (c := 5) hla hha with ⟨hla, hha⟩ | ⟨hla, hha⟩
            ·
              obtain rfl : a = 4 := ia_one hla hha (by decide) (by decide)
              exact ck_ok (by decide +kernel)
            ·
              rcases ia_cut (c := 6) hla hha with ⟨hla, hha⟩ | ⟨hla, hha⟩
              ·
                obtain rfl : a = 5 := ia_one hla hha (by decide) (by decide)
                exact ck_ok (by decide +kernel)
              ·
                rcases ia_cut (c := 7) hla hha with ⟨hla, hha⟩ | ⟨hla, hha⟩
                ·
                  obtain rfl : a = 6 := ia_one hla hha (by decide) (by decide)
                  exact ck_ok (by decide +kernel)
                ·
                  rcases ia_cut (c := 8) hla hha with ⟨hla, hha⟩ | ⟨hla, hha⟩
                  ·
                    obtain rfl : a = 7 := ia_one hla hha (by decide) (by decide)
                    exact ck_ok (by decide +kernel)
                  ·
                    rcases ia_cut (c := 9) hla hha with ⟨hla, hha⟩ | ⟨hla, hha⟩
                    ·
                      obtain rfl : a = 8 := ia_one hla hha (by decide) (by decide)
                      exact ck_ok (by decide +kernel)
                    ·
                      rcases ia_cut (c := 10) hla hha with ⟨hla, hha⟩ | ⟨hla, hha⟩
                      ·
                        obtain rfl : a = 9 := ia_one hla hha (by decide) (by decide)
                        exact ck_ok (by decide +kernel)
                      ·
                        rcases ia_cut (c := 11) hla hha with ⟨hla, hha⟩ | ⟨hla, hha⟩
                        ·
                          obtain rfl : a = 10 := ia_one hla hha (by decide) (by decide)
                          exact ck_ok (by decide +kernel)
                        ·
                          rcases ia_cut (c := 12) hla hha with ⟨hla, hha⟩ | ⟨hla, hha⟩
                          ·
                            obtain rfl : a = 11 := ia_one hla hha (by decide) (by decide)
                            exact ck_ok (by decide +kernel)
                          ·
                            obtain rfl : a = 12 := ia_one hla hha (by decide) (by decide)
                            exact ck_ok (by decide +kernel)
    ·
      apply p1_intro (v := (-1000000001))
      case h1 =>
        apply ex_X8_deal
        refine rn_step rfl ?_
        refine rb_iload rfl ?_
        refine rb_push ?_
        refine rb_push ?_
        apply rb_callS3
        case hcl => exact rfl
        case hc =>
          apply ex_X8_within
          refine rn_step rfl ?_
          refine rb_iload rfl ?_
          refine rb_iload rfl ?_
          refine rb_clt (fun h => absurd h (ia_nlt hla (by decide))) (fun _ => ?_)
          refine rb_iload rfl ?_
          refine rb_iload rfl ?_
          refine rb_cgt (fun _ => ?_) (fun h => absurd (ia_gt hla (by decide)) h)
          refine rn_step rfl ?_
          refine rb_push ?_
          refine rb_goto ?_
          refine rn_step rfl ?_
          refine rb_ret rfl rfl
        refine rb_ine (fun h => absurd (by decide) h) (fun _ => ?_)
        refine rb_push ?_
        refine rb_ret rfl rfl
      case h2 =>
        apply ex_X9_deal
        refine rn_step rfl ?_
        refine rb_iload rfl ?_
        refine rb_push ?_
        refine rb_push ?_
        apply rb_callS3
        case hcl => exact rfl
        case hc =>
          apply ex_X9_in
          refine rn_step rfl ?_
          refine rb_iload rfl ?_
          refine rb_iload rfl ?_
          refine rb_clt (fun h => absurd h (ia_nlt hla (by decide))) (fun _ => ?_)
          refine rb_iload rfl ?_
          refine rb_iload rfl ?_
          refine rb_cgt (fun _ => ?_) (fun h => absurd (ia_gt hla (by decide)) h)
          refine rn_step rfl ?_
          refine rb_push ?_
          refine rb_goto ?_
          refine rn_step rfl ?_
          refine rb_ret rfl rfl
        refine rb_ine (fun h => absurd (by decide) h) (fun _ => ?_)
        refine rb_push ?_
        refine rb_ret rfl rfl
      case h3 => exact s1_ok
      case h4 => exact rfl
set_option maxRecDepth 1000000 in
theorem bx_at_38 : ∀ n0 : Nat, n0 < 12 → ck 88 165 [.int (Int32.ofInt (0 + (n0 : Int)))] = true := by decide +kernel
set_option maxRecDepth 1000000 in
set_option maxHeartbeats 40000000 in
theorem p1_at (a : Int32) : P1 88 165 [.int a] := by
  have hla : -2147483648 ≤ a.toInt := ia_lo a
  have hha : a.toInt ≤ 2147483647 := ia_hi a
  rcases ia_cut (c := 0) hla hha with ⟨hla, hha⟩ | ⟨hla, hha⟩
  ·
    apply p1_intro (v := (-1000000001))
    case h1 =>
      apply ex_X8_at
      refine rn_step rfl ?_
      refine rb_iload rfl ?_
      apply rb_callS1
      case hcl => exact rfl
      case hc =>
        apply ex_X8_isPlace
        refine rn_step rfl ?_
        refine rb_iload rfl ?_
        refine rb_push ?_
        refine rb_push ?_
        apply rb_callS3
        case hcl => exact rfl
        case hc =>
          apply ex_X8_within
          refine rn_step rfl ?_
          refine rb_iload rfl ?_
          refine rb_iload rfl ?_
          refine rb_clt (fun _ => ?_) (fun h => absurd (ia_lt hha (by decide)) h)
          refine rn_step rfl ?_
          refine rb_push ?_
          refine rb_goto ?_
          refine rn_step rfl ?_
          refine rb_ret rfl rfl
        refine rb_ret rfl rfl
      refine rb_ieq (fun _ => ?_) (fun h => absurd (by decide) h)
      refine rn_step rfl ?_
      refine rb_push ?_
      refine rb_goto ?_
      refine rn_step rfl ?_
      refine rb_ret rfl rfl
    case h2 =>
      apply ex_X9_at
      refine rn_step rfl ?_
      refine rb_iload rfl ?_
      apply rb_callS1
      case hcl => exact rfl
      case hc =>
        apply ex_X9_isPlace
        refine rn_step rfl ?_
        refine rb_iload rfl ?_
        refine rb_push ?_
        refine rb_push ?_
        apply rb_callS3
        case hcl => exact rfl
        case hc =>
          apply ex_X9_in
          refine rn_step rfl ?_
          refine rb_iload rfl ?_
          refine rb_iload rfl ?_
          refine rb_clt (fun _ => ?_) (fun h => absurd (ia_lt hha (by decide)) h)
          refine rn_step rfl ?_
          refine rb_push ?_
          refine rb_goto ?_
          refine rn_step rfl ?_
          refine rb_ret rfl rfl
        refine rb_ret rfl rfl
      refine rb_ieq (fun _ => ?_) (fun h => absurd (by decide) h)
      refine rn_step rfl ?_
      refine rb_push ?_
      refine rb_goto ?_
      refine rn_step rfl ?_
      refine rb_ret rfl rfl
    case h3 => exact s1_ok
    case h4 => exact rfl
  ·
    rcases ia_cut (c := 12) hla hha with ⟨hla, hha⟩ | ⟨hla, hha⟩
    ·
      -- box [(0, 11)]
      obtain ⟨n0, hn0, rfl⟩ := ia_box (l := 0) (m := 12) hla hha (by decide) (by decide)
      exact ck_ok (bx_at_38 n0 hn0)
    ·
      apply p1_intro (v := (-1000000001))
      case h1 =>
        apply ex_X8_at
        refine rn_step rfl ?_
        refine rb_iload rfl ?_
        apply rb_callS1
        case hcl => exact rfl
        case hc =>
          apply ex_X8_isPlace
          refine rn_step rfl ?_
          refine rb_iload rfl ?_
          refine rb_push ?_
          refine rb_push ?_
          apply rb_callS3
          case hcl => exact rfl
          case hc =>
            apply ex_X8_within
            refine rn_step rfl ?_
            refine rb_iload rfl ?_
            refine rb_iload rfl ?_
            refine rb_clt (fun h => absurd h (ia_nlt hla (by decide))) (fun _ => ?_)
            refine rb_iload rfl ?_
            refine rb_iload rfl ?_
            refine rb_cgt (fun _ => ?_) (fun h => absurd (ia_gt hla (by decide)) h)
            refine rn_step rfl ?_
            refine rb_push ?_
            refine rb_goto ?_
            refine rn_step rfl ?_
            refine rb_ret rfl rfl
          refine rb_ret rfl rfl
        refine rb_ieq (fun _ => ?_) (fun h => absurd (by decide) h)
        refine rn_step rfl ?_
        refine rb_push ?_
        refine rb_goto ?_
        refine rn_step rfl ?_
        refine rb_ret rfl rfl
      case h2 =>
        apply ex_X9_at
        refine rn_step rfl ?_
        refine rb_iload rfl ?_
        apply rb_callS1
        case hcl => exact rfl
        case hc =>
          apply ex_X9_isPlace
          refine rn_step rfl ?_
          refine rb_iload rfl ?_
          refine rb_push ?_
          refine rb_push ?_
          apply rb_callS3
          case hcl => exact rfl
          case hc =>
            apply ex_X9_in
            refine rn_step rfl ?_
            refine rb_iload rfl ?_
            refine rb_iload rfl ?_
            refine rb_clt (fun h => absurd h (ia_nlt hla (by decide))) (fun _ => ?_)
            refine rb_iload rfl ?_
            refine rb_iload rfl ?_
            refine rb_cgt (fun _ => ?_) (fun h => absurd (ia_gt hla (by decide)) h)
            refine rn_step rfl ?_
            refine rb_push ?_
            refine rb_goto ?_
            refine rn_step rfl ?_
            refine rb_ret rfl rfl
          refine rb_ret rfl rfl
        refine rb_ieq (fun _ => ?_) (fun h => absurd (by decide) h)
        refine rn_step rfl ?_
        refine rb_push ?_
        refine rb_goto ?_
        refine rn_step rfl ?_
        refine rb_ret rfl rfl
      case h3 => exact s1_ok
      case h4 => exact rfl
set_option maxRecDepth 1000000 in
theorem bx_knocked_41 : ∀ n0 : Nat, n0 < 12 → ck 92 174 [.int (Int32.ofInt (0 + (n0 : Int)))] = true := by decide +kernel
set_option maxRecDepth 1000000 in
set_option maxHeartbeats 40000000 in
theorem p1_knocked (a : Int32) : P1 92 174 [.int a] := by
  have hla : -2147483648 ≤ a.toInt := ia_lo a
  have hha : a.toInt ≤ 2147483647 := ia_hi a
  rcases ia_cut (c := 0) hla hha with ⟨hla, hha⟩ | ⟨hla, hha⟩
  ·
    apply p1_intro (v := (-1000000001))
    case h1 =>
      apply ex_X8_knocked
      refine rn_step rfl ?_
      refine rb_iload rfl ?_
      apply rb_callS1
      case hcl => exact rfl
      case hc =>
        apply ex_X8_isPlace
        refine rn_step rfl ?_
        refine rb_iload rfl ?_
        refine rb_push ?_
        refine rb_push ?_
        apply rb_callS3
        case hcl => exact rfl
        case hc =>
          apply ex_X8_within
          refine rn_step rfl ?_
          refine rb_iload rfl ?_
          refine rb_iload rfl ?_
          refine rb_clt (fun _ => ?_) (fun h => absurd (ia_lt hha (by decide)) h)
          refine rn_step rfl ?_
          refine rb_push ?_
          refine rb_goto ?_
          refine rn_step rfl ?_
          refine rb_ret rfl rfl
        refine rb_ret rfl rfl
      refine rb_ieq (fun _ => ?_) (fun h => absurd (by decide) h)
      refine rn_step rfl ?_
      refine rb_push ?_
      refine rb_goto ?_
      refine rn_step rfl ?_
      refine rb_ret rfl rfl
    case h2 =>
      apply ex_X9_knocked
      refine rn_step rfl ?_
      refine rb_iload rfl ?_
      apply rb_callS1
      case hcl => exact rfl
      case hc =>
        apply ex_X9_isPlace
        refine rn_step rfl ?_
        refine rb_iload rfl ?_
        refine rb_push ?_
        refine rb_push ?_
        apply rb_callS3
        case hcl => exact rfl
        case hc =>
          apply ex_X9_in
          refine rn_step rfl ?_
          refine rb_iload rfl ?_
          refine rb_iload rfl ?_
          refine rb_clt (fun _ => ?_) (fun h => absurd (ia_lt hha (by decide)) h)
          refine rn_step rfl ?_
          refine rb_push ?_
          refine rb_goto ?_
          refine rn_step rfl ?_
          refine rb_ret rfl rfl
        refine rb_ret rfl rfl
      refine rb_ieq (fun _ => ?_) (fun h => absurd (by decide) h)
      refine rn_step rfl ?_
      refine rb_push ?_
      refine rb_goto ?_
      refine rn_step rfl ?_
      refine rb_ret rfl rfl
    case h3 => exact s1_ok
    case h4 => exact rfl
  ·
    rcases ia_cut (c := 12) hla hha with ⟨hla, hha⟩ | ⟨hla, hha⟩
    ·
      -- box [(0, 11)]
      obtain ⟨n0, hn0, rfl⟩ := ia_box (l := 0) (m := 12) hla hha (by decide) (by decide)
      exact ck_ok (bx_knocked_41 n0 hn0)
    ·
      apply p1_intro (v := (-1000000001))
      case h1 =>
        apply ex_X8_knocked
        refine rn_step rfl ?_
        refine rb_iload rfl ?_
        apply rb_callS1
        case hcl => exact rfl
        case hc =>
          apply ex_X8_isPlace
          refine rn_step rfl ?_
          refine rb_iload rfl ?_
          refine rb_push ?_
          refine rb_push ?_
          apply rb_callS3
          case hcl => exact rfl
          case hc =>
            apply ex_X8_within
            refine rn_step rfl ?_
            refine rb_iload rfl ?_
            refine rb_iload rfl ?_
            refine rb_clt (fun h => absurd h (ia_nlt hla (by decide))) (fun _ => ?_)
            refine rb_iload rfl ?_
            refine rb_iload rfl ?_
            refine rb_cgt (fun _ => ?_) (fun h => absurd (ia_gt hla (by decide)) h)
            refine rn_step rfl ?_
            refine rb_push ?_
            refine rb_goto ?_
            refine rn_step rfl ?_
            refine rb_ret rfl rfl
          refine rb_ret rfl rfl
        refine rb_ieq (fun _ => ?_) (fun h => absurd (by decide) h)
        refine rn_step rfl ?_
        refine rb_push ?_
        refine rb_goto ?_
        refine rn_step rfl ?_
        refine rb_ret rfl rfl
      case h2 =>
        apply ex_X9_knocked
        refine rn_step rfl ?_
        refine rb_iload rfl ?_
        apply rb_callS1
        case hcl => exact rfl
        case hc =>
          apply ex_X9_isPlace
          refine rn_step rfl ?_
          refine rb_iload rfl ?_
          refine rb_push ?_
          refine rb_push ?_
          apply rb_callS3
          case hcl => exact rfl
          case hc =>
            apply ex_X9_in
            refine rn_step rfl ?_
            refine rb_iload rfl ?_
            refine rb_iload rfl ?_
            refine rb_clt (fun h => absurd h (ia_nlt hla (by decide))) (fun _ => ?_)
            refine rb_iload rfl ?_
            refine rb_iload rfl ?_
            refine rb_cgt (fun _ => ?_) (fun h => absurd (ia_gt hla (by decide)) h)
            refine rn_step rfl ?_
            refine rb_push ?_
            refine rb_goto ?_
            refine rn_step rfl ?_
            refine rb_ret rfl rfl
          refine rb_ret rfl rfl
        refine rb_ieq (fun _ => ?_) (fun h => absurd (by decide) h)
        refine rn_step rfl ?_
        refine rb_push ?_
        refine rb_goto ?_
        refine rn_step rfl ?_
        refine rb_ret rfl rfl
      case h3 => exact s1_ok
      case h4 => exact rfl
set_option maxRecDepth 1000000 in
theorem bx_push_42 : ∀ n0 : Nat, n0 < 2 → ck 93 175 [.int (Int32.ofInt (0 + (n0 : Int)))] = true := by decide +kernel
set_option maxRecDepth 1000000 in
set_option maxHeartbeats 40000000 in
theorem p1_push (a : Int32) : P1 93 175 [.int a] := by
  have hla : -2147483648 ≤ a.toInt := ia_lo a
  have hha : a.toInt ≤ 2147483647 := ia_hi a
  rcases ia_cut (c := 0) hla hha with ⟨hla, hha⟩ | ⟨hla, hha⟩
  ·
    apply p1_intro (v := (-1000000001))
    case h1 =>
      apply ex_X8_push
      refine rn_step rfl ?_
      refine rb_iload rfl ?_
      refine rb_push ?_
      refine rb_push ?_
      apply rb_callS3
      case hcl => exact rfl
      case hc =>
        apply ex_X8_within
        refine rn_step rfl ?_
        refine rb_iload rfl ?_
        refine rb_iload rfl ?_
        refine rb_clt (fun _ => ?_) (fun h => absurd (ia_lt hha (by decide)) h)
        refine rn_step rfl ?_
        refine rb_push ?_
        refine rb_goto ?_
        refine rn_step rfl ?_
        refine rb_ret rfl rfl
      refine rb_ine (fun h => absurd (by decide) h) (fun _ => ?_)
      refine rb_push ?_
      refine rb_ret rfl rfl
    case h2 =>
      apply ex_X9_push
      refine rn_step rfl ?_
      refine rb_iload rfl ?_
      refine rb_push ?_
      refine rb_push ?_
      apply rb_callS3
      case hcl => exact rfl
      case hc =>
        apply ex_X9_in
        refine rn_step rfl ?_
        refine rb_iload rfl ?_
        refine rb_iload rfl ?_
        refine rb_clt (fun _ => ?_) (fun h => absurd (ia_lt hha (by decide)) h)
        refine rn_step rfl ?_
        refine rb_push ?_
        refine rb_goto ?_
        refine rn_step rfl ?_
        refine rb_ret rfl rfl
      refine rb_ine (fun h => absurd (by decide) h) (fun _ => ?_)
      refine rb_push ?_
      refine rb_ret rfl rfl
    case h3 => exact s1_ok
    case h4 => exact rfl
  ·
    rcases ia_cut (c := 2) hla hha with ⟨hla, hha⟩ | ⟨hla, hha⟩
    ·
      -- box [(0, 1)]
      obtain ⟨n0, hn0, rfl⟩ := ia_box (l := 0) (m := 2) hla hha (by decide) (by decide)
      exact ck_ok (bx_push_42 n0 hn0)
    ·
      apply p1_intro (v := (-1000000001))
      case h1 =>
        apply ex_X8_push
        refine rn_step rfl ?_
        refine rb_iload rfl ?_
        refine rb_push ?_
        refine rb_push ?_
        apply rb_callS3
        case hcl => exact rfl
        case hc =>
          apply ex_X8_within
          refine rn_step rfl ?_
          refine rb_iload rfl ?_
          refine rb_iload rfl ?_
          refine rb_clt (fun h => absurd h (ia_nlt hla (by decide))) (fun _ => ?_)
          refine rb_iload rfl ?_
          refine rb_iload rfl ?_
          refine rb_cgt (fun _ => ?_) (fun h => absurd (ia_gt hla (by decide)) h)
          refine rn_step rfl ?_
          refine rb_push ?_
          refine rb_goto ?_
          refine rn_step rfl ?_
          refine rb_ret rfl rfl
        refine rb_ine (fun h => absurd (by decide) h) (fun _ => ?_)
        refine rb_push ?_
        refine rb_ret rfl rfl
      case h2 =>
        apply ex_X9_push
        refine rn_step rfl ?_
        refine rb_iload rfl ?_
        refine rb_push ?_
        refine rb_push ?_
        apply rb_callS3
        case hcl => exact rfl
        case hc =>
          apply ex_X9_in
          refine rn_step rfl ?_
          refine rb_iload rfl ?_
          refine rb_iload rfl ?_
          refine rb_clt (fun h => absurd h (ia_nlt hla (by decide))) (fun _ => ?_)
          refine rb_iload rfl ?_
          refine rb_iload rfl ?_
          refine rb_cgt (fun _ => ?_) (fun h => absurd (ia_gt hla (by decide)) h)
          refine rn_step rfl ?_
          refine rb_push ?_
          refine rb_goto ?_
          refine rn_step rfl ?_
          refine rb_ret rfl rfl
        refine rb_ine (fun h => absurd (by decide) h) (fun _ => ?_)
        refine rb_push ?_
        refine rb_ret rfl rfl
      case h3 => exact s1_ok
      case h4 => exact rfl
set_option maxRecDepth 1000000 in
theorem bx_why_44 : ∀ n0 : Nat, n0 < 3 → ck 104 203 [.int (Int32.ofInt (0 + (n0 : Int)))] = true := by decide +kernel
set_option maxRecDepth 1000000 in
set_option maxHeartbeats 40000000 in
theorem p1_why (a : Int32) : P1 104 203 [.int a] := by
  have hla : -2147483648 ≤ a.toInt := ia_lo a
  have hha : a.toInt ≤ 2147483647 := ia_hi a
  rcases ia_cut (c := 0) hla hha with ⟨hla, hha⟩ | ⟨hla, hha⟩
  ·
    apply p1_intro (v := (-1000000001))
    case h1 =>
      apply ex_X8_why
      refine rn_step rfl ?_
      refine rb_iload rfl ?_
      refine rb_push ?_
      refine rb_push ?_
      apply rb_callS3
      case hcl => exact rfl
      case hc =>
        apply ex_X8_within
        refine rn_step rfl ?_
        refine rb_iload rfl ?_
        refine rb_iload rfl ?_
        refine rb_clt (fun _ => ?_) (fun h => absurd (ia_lt hha (by decide)) h)
        refine rn_step rfl ?_
        refine rb_push ?_
        refine rb_goto ?_
        refine rn_step rfl ?_
        refine rb_ret rfl rfl
      refine rb_ine (fun h => absurd (by decide) h) (fun _ => ?_)
      refine rb_push ?_
      refine rb_ret rfl rfl
    case h2 =>
      apply ex_X9_why
      refine rn_step rfl ?_
      refine rb_iload rfl ?_
      refine rb_push ?_
      refine rb_push ?_
      apply rb_callS3
      case hcl => exact rfl
      case hc =>
        apply ex_X9_in
        refine rn_step rfl ?_
        refine rb_iload rfl ?_
        refine rb_iload rfl ?_
        refine rb_clt (fun _ => ?_) (fun h => absurd (ia_lt hha (by decide)) h)
        refine rn_step rfl ?_
        refine rb_push ?_
        refine rb_goto ?_
        refine rn_step rfl ?_
        refine rb_ret rfl rfl
      refine rb_ine (fun h => absurd (by decide) h) (fun _ => ?_)
      refine rb_push ?_
      refine rb_ret rfl rfl
    case h3 => exact s1_ok
    case h4 => exact rfl
  ·
    rcases ia_cut (c := 3) hla hha with ⟨hla, hha⟩ | ⟨hla, hha⟩
    ·
      -- box [(0, 2)]
      obtain ⟨n0, hn0, rfl⟩ := ia_box (l := 0) (m := 3) hla hha (by decide) (by decide)
      exact ck_ok (bx_why_44 n0 hn0)
    ·
      apply p1_intro (v := (-1000000001))
      case h1 =>
        apply ex_X8_why
        refine rn_step rfl ?_
        refine rb_iload rfl ?_
        refine rb_push ?_
        refine rb_push ?_
        apply rb_callS3
        case hcl => exact rfl
        case hc =>
          apply ex_X8_within
          refine rn_step rfl ?_
          refine rb_iload rfl ?_
          refine rb_iload rfl ?_
          refine rb_clt (fun h => absurd h (ia_nlt hla (by decide))) (fun _ => ?_)
          refine rb_iload rfl ?_
          refine rb_iload rfl ?_
          refine rb_cgt (fun _ => ?_) (fun h => absurd (ia_gt hla (by decide)) h)
          refine rn_step rfl ?_
          refine rb_push ?_
          refine rb_goto ?_
          refine rn_step rfl ?_
          refine rb_ret rfl rfl
        refine rb_ine (fun h => absurd (by decide) h) (fun _ => ?_)
        refine rb_push ?_
        refine rb_ret rfl rfl
      case h2 =>
        apply ex_X9_why
        refine rn_step rfl ?_
        refine rb_iload rfl ?_
        refine rb_push ?_
        refine rb_push ?_
        apply rb_callS3
        case hcl => exact rfl
        case hc =>
          apply ex_X9_in
          refine rn_step rfl ?_
          refine rb_iload rfl ?_
          refine rb_iload rfl ?_
          refine rb_clt (fun h => absurd h (ia_nlt hla (by decide))) (fun _ => ?_)
          refine rb_iload rfl ?_
          refine rb_iload rfl ?_
          refine rb_cgt (fun _ => ?_) (fun h => absurd (ia_gt hla (by decide)) h)
          refine rn_step rfl ?_
          refine rb_push ?_
          refine rb_goto ?_
          refine rn_step rfl ?_
          refine rb_ret rfl rfl
        refine rb_ine (fun h => absurd (by decide) h) (fun _ => ?_)
        refine rb_push ?_
        refine rb_ret rfl rfl
      case h3 => exact s1_ok
      case h4 => exact rfl
set_option maxRecDepth 1000000 in
set_option maxHeartbeats 40000000 in
theorem p1_trim (a : Int32) : P1 101 188 [.int a] := by
  have hla : -2147483648 ≤ a.toInt := ia_lo a
  have hha : a.toInt ≤ 2147483647 := ia_hi a
  rcases ia_cut (c := 0) hla hha with ⟨hla, hha⟩ | ⟨hla, hha⟩
  ·
    apply p1_intro (v := (-1000000001))
    case h1 =>
      apply ex_X8_trim
      refine rn_step rfl ?_
      refine rb_iload rfl ?_
      refine rb_push ?_
      refine rb_aload rfl ?_
      refine rb_getf (v := .ref 37) rfl ?_
      refine rb_getf (v := .int 0) rfl ?_
      apply rb_callS3
      case hcl => exact rfl
      case hc =>
        apply ex_X8_within
        refine rn_step rfl ?_
        refine rb_iload rfl ?_
        refine rb_iload rfl ?_
        refine rb_clt (fun _ => ?_) (fun h => absurd (ia_lt hha (by decide)) h)
        refine rn_step rfl ?_
        refine rb_push ?_
        refine rb_goto ?_
        refine rn_step rfl ?_
        refine rb_ret rfl rfl
      refine rb_ine (fun h => absurd (by decide) h) (fun _ => ?_)
      refine rb_push ?_
      refine rb_ret rfl rfl
    case h2 =>
      apply ex_X9_trim
      refine rn_step rfl ?_
      refine rb_iload rfl ?_
      refine rb_push ?_
      refine rb_aload rfl ?_
      refine rb_getf (v := .int 0) rfl ?_
      apply rb_callS3
      case hcl => exact rfl
      case hc =>
        apply ex_X9_in
        refine rn_step rfl ?_
        refine rb_iload rfl ?_
        refine rb_iload rfl ?_
        refine rb_clt (fun _ => ?_) (fun h => absurd (ia_lt hha (by decide)) h)
        refine rn_step rfl ?_
        refine rb_push ?_
        refine rb_goto ?_
        refine rn_step rfl ?_
        refine rb_ret rfl rfl
      refine rb_ine (fun h => absurd (by decide) h) (fun _ => ?_)
      refine rb_push ?_
      refine rb_ret rfl rfl
    case h3 => exact s1_ok
    case h4 => exact rfl
  ·
    rcases ia_cut (c := 1) hla hha with ⟨hla, hha⟩ | ⟨hla, hha⟩
    ·
      obtain rfl : a = 0 := ia_one hla hha (by decide) (by decide)
      exact ck_ok (by decide +kernel)
    ·
      apply p1_intro (v := (-1000000001))
      case h1 =>
        apply ex_X8_trim
        refine rn_step rfl ?_
        refine rb_iload rfl ?_
        refine rb_push ?_
        refine rb_aload rfl ?_
        refine rb_getf (v := .ref 37) rfl ?_
        refine rb_getf (v := .int 0) rfl ?_
        apply rb_callS3
        case hcl => exact rfl
        case hc =>
          apply ex_X8_within
          refine rn_step rfl ?_
          refine rb_iload rfl ?_
          refine rb_iload rfl ?_
          refine rb_clt (fun h => absurd h (ia_nlt hla (by decide))) (fun _ => ?_)
          refine rb_iload rfl ?_
          refine rb_iload rfl ?_
          refine rb_cgt (fun _ => ?_) (fun h => absurd (ia_gt hla (by decide)) h)
          refine rn_step rfl ?_
          refine rb_push ?_
          refine rb_goto ?_
          refine rn_step rfl ?_
          refine rb_ret rfl rfl
        refine rb_ine (fun h => absurd (by decide) h) (fun _ => ?_)
        refine rb_push ?_
        refine rb_ret rfl rfl
      case h2 =>
        apply ex_X9_trim
        refine rn_step rfl ?_
        refine rb_iload rfl ?_
        refine rb_push ?_
        refine rb_aload rfl ?_
        refine rb_getf (v := .int 0) rfl ?_
        apply rb_callS3
        case hcl => exact rfl
        case hc =>
          apply ex_X9_in
          refine rn_step rfl ?_
          refine rb_iload rfl ?_
          refine rb_iload rfl ?_
          refine rb_clt (fun h => absurd h (ia_nlt hla (by decide))) (fun _ => ?_)
          refine rb_iload rfl ?_
          refine rb_iload rfl ?_
          refine rb_cgt (fun _ => ?_) (fun h => absurd (ia_gt hla (by decide)) h)
          refine rn_step rfl ?_
          refine rb_push ?_
          refine rb_goto ?_
          refine rn_step rfl ?_
          refine rb_ret rfl rfl
        refine rb_ine (fun h => absurd (by decide) h) (fun _ => ?_)
        refine rb_push ?_
        refine rb_ret rfl rfl
      case h3 => exact s1_ok
      case h4 => exact rfl
