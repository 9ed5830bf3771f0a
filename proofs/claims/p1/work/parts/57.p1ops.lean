set_option maxRecDepth 1000000 in
set_option maxHeartbeats 40000000 in
theorem p1_copy (a b c d e : Int32) : P1 109 212 [.int a, .int b, .int c, .int d, .int e] := by
  have hla : -2147483648 ≤ a.toInt := ia_lo a
  have hha : a.toInt ≤ 2147483647 := ia_hi a
  have hlb : -2147483648 ≤ b.toInt := ia_lo b
  have hhb : b.toInt ≤ 2147483647 := ia_hi b
  have hlc : -2147483648 ≤ c.toInt := ia_lo c
  have hhc : c.toInt ≤ 2147483647 := ia_hi c
  have hld : -2147483648 ≤ d.toInt := ia_lo d
  have hhd : d.toInt ≤ 2147483647 := ia_hi d
  have hle : -2147483648 ≤ e.toInt := ia_lo e
  have hhe : e.toInt ≤ 2147483647 := ia_hi e
  rcases ia_cut (c := 0) hla hha with ⟨hla, hha⟩ | ⟨hla, hha⟩
  ·
    apply p1_intro (v := (-1000000001))
    case h1 =>
      apply ex_X8_copy
      refine rn_step rfl ?_
      refine rb_iload rfl ?_
      apply rb_callS1
      case hcl => exact rfl
      case hc =>
        apply ex_X8_isSheet
        refine rn_step rfl ?_
        refine rb_iload rfl ?_
        refine rb_push ?_
        refine rb_push ?_
        apply rb_callS3
        case hcl => exact rfl
        case hc =>
          apply ex_X8_within
          refine rn_step rfl ?_
          refine rb_iload rfl ?_
          refine rb_iload rfl ?_
          refine rb_clt (fun _ => ?_) (fun h => absurd (ia_lt hha (by decide)) h)
          refine rn_step rfl ?_
          refine rb_push ?_
          refine rb_goto ?_
          refine rn_step rfl ?_
          refine rb_ret rfl rfl
        refine rb_ret rfl rfl
      refine rb_ieq (fun _ => ?_) (fun h => absurd (by decide) h)
      refine rn_step rfl ?_
      refine rb_push ?_
      refine rb_ret rfl rfl
    case h2 =>
      apply ex_X9_copy
      refine rn_step rfl ?_
      refine rb_iload rfl ?_
      apply rb_callS1
      case hcl => exact rfl
      case hc =>
        apply ex_X9_isSheet
        refine rn_step rfl ?_
        refine rb_iload rfl ?_
        refine rb_push ?_
        refine rb_push ?_
        apply rb_callS3
        case hcl => exact rfl
        case hc =>
          apply ex_X9_in
          refine rn_step rfl ?_
          refine rb_iload rfl ?_
          refine rb_iload rfl ?_
          refine rb_clt (fun _ => ?_) (fun h => absurd (ia_lt hha (by decide)) h)
          refine rn_step rfl ?_
          refine rb_push ?_
          refine rb_goto ?_
          refine rn_step rfl ?_
          refine rb_ret rfl rfl
        refine rb_ret rfl rfl
      refine rb_ieq (fun _ => ?_) (fun h => absurd (by decide) h)
      refine rn_step rfl ?_
      refine rb_push ?_
      refine rb_ret rfl rfl
    case h3 => exact s1_ok
    case h4 => exact rfl
  ·
    rcases ia_cut (c := 4) hla hha with ⟨hla, hha⟩ | ⟨hla, hha⟩
    ·
      rcases ia_cut (c := 0) hlc hhc with ⟨hlc, hhc⟩ | ⟨hlc, hhc⟩
      ·
        apply p1_intro (v := (-1000000001))
        case h1 =>
          apply ex_X8_copy
          refine rn_step rfl ?_
          refine rb_iload rfl ?_
          apply rb_callS1
          case hcl => exact rfl
          case hc =>
            apply ex_X8_isSheet
            refine rn_step rfl ?_
            refine rb_iload rfl ?_
            refine rb_push ?_
            refine rb_push ?_
            apply rb_callS3
            case hcl => exact rfl
            case hc =>
              apply ex_X8_within
              refine rn_step rfl ?_
              refine rb_iload rfl ?_
              refine rb_iload rfl ?_
              refine rb_clt (fun h => absurd h (ia_nlt hla (by decide))) (fun _ => ?_)
              refine rb_iload rfl ?_
              refine rb_iload rfl ?_
              refine rb_cgt (fun h => absurd h (ia_ngt hha (by decide))) (fun _ => ?_)
              refine rb_push ?_
              refine rb_goto ?_
              refine rn_step rfl ?_
              refine rb_ret rfl rfl
            refine rb_ret rfl rfl
          refine rb_ieq (fun h => absurd h (by decide)) (fun _ => ?_)
          refine rb_iload rfl ?_
          apply rb_callS1
          case hcl => exact rfl
          case hc =>
            apply ex_X8_isSheet
            refine rn_step rfl ?_
            refine rb_iload rfl ?_
            refine rb_push ?_
            refine rb_push ?_
            apply rb_callS3
            case hcl => exact rfl
            case hc =>
              apply ex_X8_within
              refine rn_step rfl ?_
              refine rb_iload rfl ?_
              refine rb_iload rfl ?_
              refine rb_clt (fun _ => ?_) (fun h => absurd (ia_lt hhc (by decide)) h)
              refine rn_step rfl ?_
              refine rb_push ?_
              refine rb_goto ?_
              refine rn_step rfl ?_
              refine rb_ret rfl rfl
            refine rb_ret rfl rfl
          refine rb_ine (fun h => absurd (by decide) h) (fun _ => ?_)
          refine rb_goto ?_
          refine rn_step rfl ?_
          refine rb_push ?_
          refine rb_ret rfl rfl
        case h2 =>
          apply ex_X9_copy
          refine rn_step rfl ?_
          refine rb_iload rfl ?_
          apply rb_callS1
          case hcl => exact rfl
          case hc =>
            apply ex_X9_isSheet
            refine rn_step rfl ?_
            refine rb_iload rfl ?_
            refine rb_push ?_
            refine rb_push ?_
            apply rb_callS3
            case hcl => exact rfl
            case hc =>
              apply ex_X9_in
              refine rn_step rfl ?_
              refine rb_iload rfl ?_
              refine rb_iload rfl ?_
              refine rb_clt (fun h => absurd h (ia_nlt hla (by decide))) (fun _ => ?_)
              refine rb_iload rfl ?_
              refine rb_iload rfl ?_
              refine rb_cgt (fun h => absurd h (ia_ngt hha (by decide))) (fun _ => ?_)
              refine rb_push ?_
              refine rb_goto ?_
              refine rn_step rfl ?_
              refine rb_ret rfl rfl
            refine rb_ret rfl rfl
          refine rb_ieq (fun h => absurd h (by decide)) (fun _ => ?_)
          refine rb_iload rfl ?_
          apply rb_callS1
          case hcl => exact rfl
          case hc =>
            apply ex_X9_isSheet
            refine rn_step rfl ?_
            refine rb_iload rfl ?_
            refine rb_push ?_
            refine rb_push ?_
            apply rb_callS3
            case hcl => exact rfl
            case hc =>
              apply ex_X9_in
              refine rn_step rfl ?_
              refine rb_iload rfl ?_
              refine rb_iload rfl ?_
              refine rb_clt (fun _ => ?_) (fun h => absurd (ia_lt hhc (by decide)) h)
              refine rn_step rfl ?_
              refine rb_push ?_
              refine rb_goto ?_
              refine rn_step rfl ?_
              refine rb_ret rfl rfl
            refine rb_ret rfl rfl
          refine rb_ine (fun h => absurd (by decide) h) (fun _ => ?_)
          refine rb_goto ?_
          refine rn_step rfl ?_
          refine rb_push ?_
          refine rb_ret rfl rfl
        case h3 => exact s1_ok
        case h4 => exact rfl
      ·
        rcases ia_cut (c := 4) hlc hhc with ⟨hlc, hhc⟩ | ⟨hlc, hhc⟩
        ·
          rcases ia_cut (c := 1) hla hha with ⟨hla, hha⟩ | ⟨hla, hha⟩
          ·
            obtain rfl : a = 0 := ia_one hla hha (by decide) (by decide)
            rcases ia_cut (c := 1) hlc hhc with ⟨hlc, hhc⟩ | ⟨hlc, hhc⟩
            ·
              obtain rfl : c = 0 := ia_one hlc hhc (by decide) (by decide)
              apply p1_intro (v := (-1000000011))
              case h1 =>
                apply ex_X8_copy
                refine rn_step rfl ?_
                refine rb_iload rfl ?_
                apply rb_callS1
                case hcl => exact rfl
                case hc =>
                  apply ex_X8_isSheet
                  refine rn_step rfl ?_
                  refine rb_iload rfl ?_
                  refine rb_push ?_
                  refine rb_push ?_
                  apply rb_callS3
                  case hcl => exact rfl
                  case hc =>
                    apply ex_X8_within
                    refine rn_step rfl ?_
                    refine rb_iload rfl ?_
                    refine rb_iload rfl ?_
                    refine rb_clt (fun h => absurd h (by decide)) (fun _ => ?_)
                    refine rb_iload rfl ?_
                    refine rb_iload rfl ?_
                    refine rb_cgt (fun h => absurd h (by decide)) (fun _ => ?_)
                    refine rb_push ?_
                    refine rb_goto ?_
                    refine rn_step rfl ?_
                    refine rb_ret rfl rfl
                  refine rb_ret rfl rfl
                refine rb_ieq (fun h => absurd h (by decide)) (fun _ => ?_)
                refine rb_iload rfl ?_
                apply rb_callS1
                case hcl => exact rfl
                case hc =>
                  apply ex_X8_isSheet
                  refine rn_step rfl ?_
                  refine rb_iload rfl ?_
                  refine rb_push ?_
                  refine rb_push ?_
                  apply rb_callS3
                  case hcl => exact rfl
                  case hc =>
                    apply ex_X8_within
                    refine rn_step rfl ?_
                    refine rb_iload rfl ?_
                    refine rb_iload rfl ?_
                    refine rb_clt (fun h => absurd h (by decide)) (fun _ => ?_)
                    refine rb_iload rfl ?_
                    refine rb_iload rfl ?_
                    refine rb_cgt (fun h => absurd h (by decide)) (fun _ => ?_)
                    refine rb_push ?_
                    refine rb_goto ?_
                    refine rn_step rfl ?_
                    refine rb_ret rfl rfl
                  refine rb_ret rfl rfl
                refine rb_ine (fun _ => ?_) (fun h => absurd (by decide) h)
                refine rn_step rfl ?_
                refine rb_aload rfl ?_
                refine rb_getf (v := .ref 42) rfl ?_
                refine rb_iload rfl ?_
                refine rb_aaldR rfl (by decide) rfl ?_
                refine rb_astore (lv' := [some (.ref 0), some (.int 0), some (.int (b)), some (.int 0), some (.int (d)), some (.int (e)), some (.ref 45), none]) rfl ?_
                refine rb_aload rfl ?_
                refine rb_getf (v := .ref 42) rfl ?_
                refine rb_iload rfl ?_
                refine rb_aaldR rfl (by decide) rfl ?_
                refine rb_astore (lv' := [some (.ref 0), some (.int 0), some (.int (b)), some (.int 0), some (.int (d)), some (.int (e)), some (.ref 45), some (.ref 45)]) rfl ?_
                refine rb_aload rfl ?_
                apply rb_callV0
                case hb => exact rfl
                case hcl => exact rfl
                case hc =>
                  apply ex_X2_isMissing
                  refine rn_step rfl ?_
                  refine rb_aload rfl ?_
                  refine rb_getf (v := .int (-1)) rfl ?_
                  refine rb_push ?_
                  refine rb_cne (fun h => absurd (by decide) h) (fun _ => ?_)
                  refine rb_push ?_
                  refine rb_goto ?_
                  refine rn_step rfl ?_
                  refine rb_ret rfl rfl
                refine rb_ine (fun _ => ?_) (fun h => absurd (by decide) h)
                refine rn_step rfl ?_
                refine rb_push ?_
                refine rb_ret rfl rfl
              case h2 =>
                apply ex_X9_copy
                refine rn_step rfl ?_
                refine rb_iload rfl ?_
                apply rb_callS1
                case hcl => exact rfl
                case hc =>
                  apply ex_X9_isSheet
                  refine rn_step rfl ?_
                  refine rb_iload rfl ?_
                  refine rb_push ?_
                  refine rb_push ?_
                  apply rb_callS3
                  case hcl => exact rfl
                  case hc =>
                    apply ex_X9_in
                    refine rn_step rfl ?_
                    refine rb_iload rfl ?_
                    refine rb_iload rfl ?_
                    refine rb_clt (fun h => absurd h (by decide)) (fun _ => ?_)
                    refine rb_iload rfl ?_
                    refine rb_iload rfl ?_
                    refine rb_cgt (fun h => absurd h (by decide)) (fun _ => ?_)
                    refine rb_push ?_
                    refine rb_goto ?_
                    refine rn_step rfl ?_
                    refine rb_ret rfl rfl
                  refine rb_ret rfl rfl
                refine rb_ieq (fun h => absurd h (by decide)) (fun _ => ?_)
                refine rb_iload rfl ?_
                apply rb_callS1
                case hcl => exact rfl
                case hc =>
                  apply ex_X9_isSheet
                  refine rn_step rfl ?_
                  refine rb_iload rfl ?_
                  refine rb_push ?_
                  refine rb_push ?_
                  apply rb_callS3
                  case hcl => exact rfl
                  case hc =>
                    apply ex_X9_in
                    refine rn_step rfl ?_
                    refine rb_iload rfl ?_
                    refine rb_iload rfl ?_
                    refine rb_clt (fun h => absurd h (by decide)) (fun _ => ?_)
                    refine rb_iload rfl ?_
                    refine rb_iload rfl ?_
                    refine rb_cgt (fun h => absurd h (by decide)) (fun _ => ?_)
                    refine rb_push ?_
                    refine rb_goto ?_
                    refine rn_step rfl ?_
                    refine rb_ret rfl rfl
                  refine rb_ret rfl rfl
                refine rb_ine (fun _ => ?_) (fun h => absurd (by decide) h)
                refine rn_step rfl ?_
                refine rb_aload rfl ?_
                refine rb_getf (v := .ref 83) rfl ?_
                refine rb_iload rfl ?_
                refine rb_iald rfl (by decide) (show _ = some ((-1)) from rfl) ?_
                refine rb_ilt (fun _ => ?_) (fun h => absurd (by decide) h)
                refine rn_step rfl ?_
                refine rb_push ?_
                refine rb_ret rfl rfl
              case h3 => exact s1_ok
              case h4 => exact rfl
            ·
              rcases ia_cut (c := 2) hlc hhc with ⟨hlc, hhc⟩ | ⟨hlc, hhc⟩
              ·
                obtain rfl : c = 1 := ia_one hlc hhc (by decide) (by decide)
                apply p1_intro (v := (-1000000011))
                case h1 =>
                  apply ex_X8_copy
                  refine rn_step rfl ?_
                  refine rb_iload rfl ?_
                  apply rb_callS1
                  case hcl => exact rfl
                  case hc =>
                    apply ex_X8_isSheet
                    refine rn_step rfl ?_
                    refine rb_iload rfl ?_
                    refine rb_push ?_
                    refine rb_push ?_
                    apply rb_callS3
                    case hcl => exact rfl
                    case hc =>
                      apply ex_X8_within
                      refine rn_step rfl ?_
                      refine rb_iload rfl ?_
                      refine rb_iload rfl ?_
                      refine rb_clt (fun h => absurd h (by decide)) (fun _ => ?_)
                      refine rb_iload rfl ?_
                      refine rb_iload rfl ?_
                      refine rb_cgt (fun h => absurd h (by decide)) (fun _ => ?_)
                      refine rb_push ?_
                      refine rb_goto ?_
                      refine rn_step rfl ?_
                      refine rb_ret rfl rfl
                    refine rb_ret rfl rfl
                  refine rb_ieq (fun h => absurd h (by decide)) (fun _ => ?_)
                  refine rb_iload rfl ?_
                  apply rb_callS1
                  case hcl => exact rfl
                  case hc =>
                    apply ex_X8_isSheet
                    refine rn_step rfl ?_
                    refine rb_iload rfl ?_
                    refine rb_push ?_
                    refine rb_push ?_
                    apply rb_callS3
                    case hcl => exact rfl
                    case hc =>
                      apply ex_X8_within
                      refine rn_step rfl ?_
                      refine rb_iload rfl ?_
                      refine rb_iload rfl ?_
                      refine rb_clt (fun h => absurd h (by decide)) (fun _ => ?_)
                      refine rb_iload rfl ?_
                      refine rb_iload rfl ?_
                      refine rb_cgt (fun h => absurd h (by decide)) (fun _ => ?_)
                      refine rb_push ?_
                      refine rb_goto ?_
                      refine rn_step rfl ?_
                      refine rb_ret rfl rfl
                    refine rb_ret rfl rfl
                  refine rb_ine (fun _ => ?_) (fun h => absurd (by decide) h)
                  refine rn_step rfl ?_
                  refine rb_aload rfl ?_
                  refine rb_getf (v := .ref 42) rfl ?_
                  refine rb_iload rfl ?_
                  refine rb_aaldR rfl (by decide) rfl ?_
                  refine rb_astore (lv' := [some (.ref 0), some (.int 0), some (.int (b)), some (.int 1), some (.int (d)), some (.int (e)), some (.ref 45), none]) rfl ?_
                  refine rb_aload rfl ?_
                  refine rb_getf (v := .ref 42) rfl ?_
                  refine rb_iload rfl ?_
                  refine rb_aaldR rfl (by decide) rfl ?_
                  refine rb_astore (lv' := [some (.ref 0), some (.int 0), some (.int (b)), some (.int 1), some (.int (d)), some (.int (e)), some (.ref 45), some (.ref 47)]) rfl ?_
                  refine rb_aload rfl ?_
                  apply rb_callV0
                  case hb => exact rfl
                  case hcl => exact rfl
                  case hc =>
                    apply ex_X2_isMissing
                    refine rn_step rfl ?_
                    refine rb_aload rfl ?_
                    refine rb_getf (v := .int (-1)) rfl ?_
                    refine rb_push ?_
                    refine rb_cne (fun h => absurd (by decide) h) (fun _ => ?_)
                    refine rb_push ?_
                    refine rb_goto ?_
                    refine rn_step rfl ?_
                    refine rb_ret rfl rfl
                  refine rb_ine (fun _ => ?_) (fun h => absurd (by decide) h)
                  refine rn_step rfl ?_
                  refine rb_push ?_
                  refine rb_ret rfl rfl
                case h2 =>
                  apply ex_X9_copy
                  refine rn_step rfl ?_
                  refine rb_iload rfl ?_
                  apply rb_callS1
                  case hcl => exact rfl
                  case hc =>
                    apply ex_X9_isSheet
                    refine rn_step rfl ?_
                    refine rb_iload rfl ?_
                    refine rb_push ?_
                    refine rb_push ?_
                    apply rb_callS3
                    case hcl => exact rfl
                    case hc =>
                      apply ex_X9_in
                      refine rn_step rfl ?_
                      refine rb_iload rfl ?_
                      refine rb_iload rfl ?_
                      refine rb_clt (fun h => absurd h (by decide)) (fun _ => ?_)
                      refine rb_iload rfl ?_
                      refine rb_iload rfl ?_
                      refine rb_cgt (fun h => absurd h (by decide)) (fun _ => ?_)
                      refine rb_push ?_
                      refine rb_goto ?_
                      refine rn_step rfl ?_
                      refine rb_ret rfl rfl
                    refine rb_ret rfl rfl
                  refine rb_ieq (fun h => absurd h (by decide)) (fun _ => ?_)
                  refine rb_iload rfl ?_
                  apply rb_callS1
                  case hcl => exact rfl
                  case hc =>
                    apply ex_X9_isSheet
                    refine rn_step rfl ?_
                    refine rb_iload rfl ?_
                    refine rb_push ?_
                    refine rb_push ?_
                    apply rb_callS3
                    case hcl => exact rfl
                    case hc =>
                      apply ex_X9_in
                      refine rn_step rfl ?_
                      refine rb_iload rfl ?_
                      refine rb_iload rfl ?_
                      refine rb_clt (fun h => absurd h (by decide)) (fun _ => ?_)
                      refine rb_iload rfl ?_
                      refine rb_iload rfl ?_
                      refine rb_cgt (fun h => absurd h (by decide)) (fun _ => ?_)
                      refine rb_push ?_
                      refine rb_goto ?_
                      refine rn_step rfl ?_
                      refine rb_ret rfl rfl
                    refine rb_ret rfl rfl
                  refine rb_ine (fun _ => ?_) (fun h => absurd (by decide) h)
                  refine rn_step rfl ?_
                  refine rb_aload rfl ?_
                  refine rb_getf (v := .ref 83) rfl ?_
                  refine rb_iload rfl ?_
                  refine rb_iald rfl (by decide) (show _ = some ((-1)) from rfl) ?_
                  refine rb_ilt (fun _ => ?_) (fun h => absurd (by decide) h)
                  refine rn_step rfl ?_
                  refine rb_push ?_
                  refine rb_ret rfl rfl
                case h3 => exact s1_ok
                case h4 => exact rfl
              ·
                rcases ia_cut (c := 3) hlc hhc with ⟨hlc, hhc⟩ | ⟨hlc, hhc⟩
                ·
                  obtain rfl : c = 2 := ia_one hlc hhc (by decide) (by decide)
                  apply p1_intro (v := (-1000000011))
                  case h1 =>
                    apply ex_X8_copy
                    refine rn_step rfl ?_
                    refine rb_iload rfl ?_
                    apply rb_callS1
                    case hcl => exact rfl
                    case hc =>
                      apply ex_X8_isSheet
                      refine rn_step rfl ?_
                      refine rb_iload rfl ?_
                      refine rb_push ?_
                      refine rb_push ?_
                      apply rb_callS3
                      case hcl => exact rfl
                      case hc =>
                        apply ex_X8_within
                        refine rn_step rfl ?_
                        refine rb_iload rfl ?_
                        refine rb_iload rfl ?_
                        refine rb_clt (fun h => absurd h (by decide)) (fun _ => ?_)
                        refine rb_iload rfl ?_
                        refine rb_iload rfl ?_
                        refine rb_cgt (fun h => absurd h (by decide)) (fun _ => ?_)
                        refine rb_push ?_
                        refine rb_goto ?_
                        refine rn_step rfl ?_
                        refine rb_ret rfl rfl
                      refine rb_ret rfl rfl
                    refine rb_ieq (fun h => absurd h (by decide)) (fun _ => ?_)
                    refine rb_iload rfl ?_
                    apply rb_callS1
                    case hcl => exact rfl
                    case hc =>
                      apply ex_X8_isSheet
                      refine rn_step rfl ?_
                      refine rb_iload rfl ?_
                      refine rb_push ?_
                      refine rb_push ?_
                      apply rb_callS3
                      case hcl => exact rfl
                      case hc =>
                        apply ex_X8_within
                        refine rn_step rfl ?_
                        refine rb_iload rfl ?_
                        refine rb_iload rfl ?_
                        refine rb_clt (fun h => absurd h (by decide)) (fun _ => ?_)
                        refine rb_iload rfl ?_
                        refine rb_iload rfl ?_
                        refine rb_cgt (fun h => absurd h (by decide)) (fun _ => ?_)
                        refine rb_push ?_
                        refine rb_goto ?_
                        refine rn_step rfl ?_
                        refine rb_ret rfl rfl
                      refine rb_ret rfl rfl
                    refine rb_ine (fun _ => ?_) (fun h => absurd (by decide) h)
                    refine rn_step rfl ?_
                    refine rb_aload rfl ?_
                    refine rb_getf (v := .ref 42) rfl ?_
                    refine rb_iload rfl ?_
                    refine rb_aaldR rfl (by decide) rfl ?_
                    refine rb_astore (lv' := [some (.ref 0), some (.int 0), some (.int (b)), some (.int 2), some (.int (d)), some (.int (e)), some (.ref 45), none]) rfl ?_
                    refine rb_aload rfl ?_
                    refine rb_getf (v := .ref 42) rfl ?_
                    refine rb_iload rfl ?_
                    refine rb_aaldR rfl (by decide) rfl ?_
                    refine rb_astore (lv' := [some (.ref 0), some (.int 0), some (.int (b)), some (.int 2), some (.int (d)), some (.int (e)), some (.ref 45), some (.ref 49)]) rfl ?_
                    refine rb_aload rfl ?_
                    apply rb_callV0
                    case hb => exact rfl
                    case hcl => exact rfl
                    case hc =>
                      apply ex_X2_isMissing
                      refine rn_step rfl ?_
                      refine rb_aload rfl ?_
                      refine rb_getf (v := .int (-1)) rfl ?_
                      refine rb_push ?_
                      refine rb_cne (fun h => absurd (by decide) h) (fun _ => ?_)
                      refine rb_push ?_
                      refine rb_goto ?_
                      refine rn_step rfl ?_
                      refine rb_ret rfl rfl
                    refine rb_ine (fun _ => ?_) (fun h => absurd (by decide) h)
                    refine rn_step rfl ?_
                    refine rb_push ?_
                    refine rb_ret rfl rfl
                  case h2 =>
                    apply ex_X9_copy
                    refine rn_step rfl ?_
                    refine rb_iload rfl ?_
                    apply rb_callS1
                    case hcl => exact rfl
                    case hc =>
                      apply ex_X9_isSheet
                      refine rn_step rfl ?_
                      refine rb_iload rfl ?_
                      refine rb_push ?_
                      refine rb_push ?_
                      apply rb_callS3
                      case hcl => exact rfl
                      case hc =>
                        apply ex_X9_in
                        refine rn_step rfl ?_
                        refine rb_iload rfl ?_
                        refine rb_iload rfl ?_
                        refine rb_clt (fun h => absurd h (by decide)) (fun _ => ?_)
                        refine rb_iload rfl ?_
                        refine rb_iload rfl ?_
                        refine rb_cgt (fun h => absurd h (by decide)) (fun _ => ?_)
                        refine rb_push ?_
                        refine rb_goto ?_
                        refine rn_step rfl ?_
                        refine rb_ret rfl rfl
                      refine rb_ret rfl rfl
                    refine rb_ieq (fun h => absurd h (by decide)) (fun _ => ?_)
                    refine rb_iload rfl ?_
                    apply rb_callS1
                    case hcl => exact rfl
                    case hc =>
                      apply ex_X9_isSheet
                      refine rn_step rfl ?_
                      refine rb_iload rfl ?_
                      refine rb_push ?_
                      refine rb_push ?_
                      apply rb_callS3
                      case hcl => exact rfl
                      case hc =>
                        apply ex_X9_in
                        refine rn_step rfl ?_
                        refine rb_iload rfl ?_
                        refine rb_iload rfl ?_
                        refine rb_clt (fun h => absurd h (by decide)) (fun _ => ?_)
                        refine rb_iload rfl ?_
                        refine rb_iload rfl ?_
                        refine rb_cgt (fun h => absurd h (by decide)) (fun _ => ?_)
                        refine rb_push ?_
                        refine rb_goto ?_
                        refine rn_step rfl ?_
                        refine rb_ret rfl rfl
                      refine rb_ret rfl rfl
                    refine rb_ine (fun _ => ?_) (fun h => absurd (by decide) h)
                    refine rn_step rfl ?_
                    refine rb_aload rfl ?_
                    refine rb_getf (v := .ref 83) rfl ?_
                    refine rb_iload rfl ?_
                    refine rb_iald rfl (by decide) (show _ = some ((-1)) from rfl) ?_
                    refine rb_ilt (fun _ => ?_) (fun h => absurd (by decide) h)
                    refine rn_step rfl ?_
                    refine rb_push ?_
                    refine rb_ret rfl rfl
                  case h3 => exact s1_ok
                  case h4 => exact rfl
                ·
                  obtain rfl : c = 3 := ia_one hlc hhc (by decide) (by decide)
                  apply p1_intro (v := (-1000000011))
                  case h1 =>
                    apply ex_X8_copy
                    refine rn_step rfl ?_
                    refine rb_iload rfl ?_
                    apply rb_callS1
                    case hcl => exact rfl
                    case hc =>
                      apply ex_X8_isSheet
                      refine rn_step rfl ?_
                      refine rb_iload rfl ?_
                      refine rb_push ?_
                      refine rb_push ?_
                      apply rb_callS3
                      case hcl => exact rfl
                      case hc =>
                        apply ex_X8_within
                        refine rn_step rfl ?_
                        refine rb_iload rfl ?_
                        refine rb_iload rfl ?_
                        refine rb_clt (fun h => absurd h (by decide)) (fun _ => ?_)
                        refine rb_iload rfl ?_
                        refine rb_iload rfl ?_
                        refine rb_cgt (fun h => absurd h (by decide)) (fun _ => ?_)
                        refine rb_push ?_
                        refine rb_goto ?_
                        refine rn_step rfl ?_
                        refine rb_ret rfl rfl
                      refine rb_ret rfl rfl
                    refine rb_ieq (fun h => absurd h (by decide)) (fun _ => ?_)
                    refine rb_iload rfl ?_
                    apply rb_callS1
                    case hcl => exact rfl
                    case hc =>
                      apply ex_X8_isSheet
                      refine rn_step rfl ?_
                      refine rb_iload rfl ?_
                      refine rb_push ?_
                      refine rb_push ?_
                      apply rb_callS3
                      case hcl => exact rfl
                      case hc =>
                        apply ex_X8_within
                        refine rn_step rfl ?_
                        refine rb_iload rfl ?_
                        refine rb_iload rfl ?_
                        refine rb_clt (fun h => absurd h (by decide)) (fun _ => ?_)
                        refine rb_iload rfl ?_
                        refine rb_iload rfl ?_
                        refine rb_cgt (fun h => absurd h (by decide)) (fun _ => ?_)
                        refine rb_push ?_
                        refine rb_goto ?_
                        refine rn_step rfl ?_
                        refine rb_ret rfl rfl
                      refine rb_ret rfl rfl
                    refine rb_ine (fun _ => ?_) (fun h => absurd (by decide) h)
                    refine rn_step rfl ?_
                    refine rb_aload rfl ?_
                    refine rb_getf (v := .ref 42) rfl ?_
                    refine rb_iload rfl ?_
                    refine rb_aaldR rfl (by decide) rfl ?_
                    refine rb_astore (lv' := [some (.ref 0), some (.int 0), some (.int (b)), some (.int 3), some (.int (d)), some (.int (e)), some (.ref 45), none]) rfl ?_
                    refine rb_aload rfl ?_
                    refine rb_getf (v := .ref 42) rfl ?_
                    refine rb_iload rfl ?_
                    refine rb_aaldR rfl (by decide) rfl ?_
                    refine rb_astore (lv' := [some (.ref 0), some (.int 0), some (.int (b)), some (.int 3), some (.int (d)), some (.int (e)), some (.ref 45), some (.ref 51)]) rfl ?_
                    refine rb_aload rfl ?_
                    apply rb_callV0
                    case hb => exact rfl
                    case hcl => exact rfl
                    case hc =>
                      apply ex_X2_isMissing
                      refine rn_step rfl ?_
                      refine rb_aload rfl ?_
                      refine rb_getf (v := .int (-1)) rfl ?_
                      refine rb_push ?_
                      refine rb_cne (fun h => absurd (by decide) h) (fun _ => ?_)
                      refine rb_push ?_
                      refine rb_goto ?_
                      refine rn_step rfl ?_
                      refine rb_ret rfl rfl
                    refine rb_ine (fun _ => ?_) (fun h => absurd (by decide) h)
                    refine rn_step rfl ?_
                    refine rb_push ?_
                    refine rb_ret rfl rfl
                  case h2 =>
                    apply ex_X9_copy
                    refine rn_step rfl ?_
                    refine rb_iload rfl ?_
                    apply rb_callS1
                    case hcl => exact rfl
                    case hc =>
                      apply ex_X9_isSheet
                      refine rn_step rfl ?_
                      refine rb_iload rfl ?_
                      refine rb_push ?_
                      refine rb_push ?_
                      apply rb_callS3
                      case hcl => exact rfl
                      case hc =>
                        apply ex_X9_in
                        refine rn_step rfl ?_
                        refine rb_iload rfl ?_
                        refine rb_iload rfl ?_
                        refine rb_clt (fun h => absurd h (by decide)) (fun _ => ?_)
                        refine rb_iload rfl ?_
                        refine rb_iload rfl ?_
                        refine rb_cgt (fun h => absurd h (by decide)) (fun _ => ?_)
                        refine rb_push ?_
                        refine rb_goto ?_
                        refine rn_step rfl ?_
                        refine rb_ret rfl rfl
                      refine rb_ret rfl rfl
                    refine rb_ieq (fun h => absurd h (by decide)) (fun _ => ?_)
                    refine rb_iload rfl ?_
                    apply rb_callS1
                    case hcl => exact rfl
                    case hc =>
                      apply ex_X9_isSheet
                      refine rn_step rfl ?_
                      refine rb_iload rfl ?_
                      refine rb_push ?_
                      refine rb_push ?_
                      apply rb_callS3
                      case hcl => exact rfl
                      case hc =>
                        apply ex_X9_in
                        refine rn_step rfl ?_
                        refine rb_iload rfl ?_
                        refine rb_iload rfl ?_
                        refine rb_clt (fun h => absurd h (by decide)) (fun _ => ?_)
                        refine rb_iload rfl ?_
                        refine rb_iload rfl ?_
                        refine rb_cgt (fun h => absurd h (by decide)) (fun _ => ?_)
                        refine rb_push ?_
                        refine rb_goto ?_
                        refine rn_step rfl ?_
                        refine rb_ret rfl rfl
                      refine rb_ret rfl rfl
                    refine rb_ine (fun _ => ?_) (fun h => absurd (by decide) h)
                    refine rn_step rfl ?_
                    refine rb_aload rfl ?_
                    refine rb_getf (v := .ref 83) rfl ?_
                    refine rb_iload rfl ?_
                    refine rb_iald rfl (by decide) (show _ = some ((-1)) from rfl) ?_
                    refine rb_ilt (fun _ => ?_) (fun h => absurd (by decide) h)
                    refine rn_step rfl ?_
                    refine rb_push ?_
                    refine rb_ret rfl rfl
                  case h3 => exact s1_ok
                  case h4 => exact rfl
          ·
            rcases ia_cut (c := 2) hla hha with ⟨hla, hha⟩ | ⟨hla, hha⟩
            ·
              obtain rfl : a = 1 := ia_one hla hha (by decide) (by decide)
              rcases ia_cut (c := 1) hlc hhc with ⟨hlc, hhc⟩ | ⟨hlc, hhc⟩
              ·
                obtain rfl : c = 0 := ia_one hlc hhc (by decide) (by decide)
                apply p1_intro (v := (-1000000011))
                case h1 =>
                  apply ex_X8_copy
                  refine rn_step rfl ?_
                  refine rb_iload rfl ?_
                  apply rb_callS1
                  case hcl => exact rfl
                  case hc =>
                    apply ex_X8_isSheet
                    refine rn_step rfl ?_
                    refine rb_iload rfl ?_
                    refine rb_push ?_
                    refine rb_push ?_
                    apply rb_callS3
                    case hcl => exact rfl
                    case hc =>
                      apply ex_X8_within
                      refine rn_step rfl ?_
                      refine rb_iload rfl ?_
                      refine rb_iload rfl ?_
                      refine rb_clt (fun h => absurd h (by decide)) (fun _ => ?_)
                      refine rb_iload rfl ?_
                      refine rb_iload rfl ?_
                      refine rb_cgt (fun h => absurd h (by decide)) (fun _ => ?_)
                      refine rb_push ?_
                      refine rb_goto ?_
                      refine rn_step rfl ?_
                      refine rb_ret rfl rfl
                    refine rb_ret rfl rfl
                  refine rb_ieq (fun h => absurd h (by decide)) (fun _ => ?_)
                  refine rb_iload rfl ?_
                  apply rb_callS1
                  case hcl => exact rfl
                  case hc =>
                    apply ex_X8_isSheet
                    refine rn_step rfl ?_
                    refine rb_iload rfl ?_
                    refine rb_push ?_
                    refine rb_push ?_
                    apply rb_callS3
                    case hcl => exact rfl
                    case hc =>
                      apply ex_X8_within
                      refine rn_step rfl ?_
                      refine rb_iload rfl ?_
                      refine rb_iload rfl ?_
                      refine rb_clt (fun h => absurd h (by decide)) (fun _ => ?_)
                      refine rb_iload rfl ?_
                      refine rb_iload rfl ?_
                      refine rb_cgt (fun h => absurd h (by decide)) (fun _ => ?_)
                      refine rb_push ?_
                      refine rb_goto ?_
                      refine rn_step rfl ?_
                      refine rb_ret rfl rfl
                    refine rb_ret rfl rfl
                  refine rb_ine (fun _ => ?_) (fun h => absurd (by decide) h)
                  refine rn_step rfl ?_
                  refine rb_aload rfl ?_
                  refine rb_getf (v := .ref 42) rfl ?_
                  refine rb_iload rfl ?_
                  refine rb_aaldR rfl (by decide) rfl ?_
                  refine rb_astore (lv' := [some (.ref 0), some (.int 1), some (.int (b)), some (.int 0), some (.int (d)), some (.int (e)), some (.ref 47), none]) rfl ?_
                  refine rb_aload rfl ?_
                  refine rb_getf (v := .ref 42) rfl ?_
                  refine rb_iload rfl ?_
                  refine rb_aaldR rfl (by decide) rfl ?_
                  refine rb_astore (lv' := [some (.ref 0), some (.int 1), some (.int (b)), some (.int 0), some (.int (d)), some (.int (e)), some (.ref 47), some (.ref 45)]) rfl ?_
                  refine rb_aload rfl ?_
                  apply rb_callV0
                  case hb => exact rfl
                  case hcl => exact rfl
                  case hc =>
                    apply ex_X2_isMissing
                    refine rn_step rfl ?_
                    refine rb_aload rfl ?_
                    refine rb_getf (v := .int (-1)) rfl ?_
                    refine rb_push ?_
                    refine rb_cne (fun h => absurd (by decide) h) (fun _ => ?_)
                    refine rb_push ?_
                    refine rb_goto ?_
                    refine rn_step rfl ?_
                    refine rb_ret rfl rfl
                  refine rb_ine (fun _ => ?_) (fun h => absurd (by decide) h)
                  refine rn_step rfl ?_
                  refine rb_push ?_
                  refine rb_ret rfl rfl
                case h2 =>
                  apply ex_X9_copy
                  refine rn_step rfl ?_
                  refine rb_iload rfl ?_
                  apply rb_callS1
                  case hcl => exact rfl
                  case hc =>
                    apply ex_X9_isSheet
                    refine rn_step rfl ?_
                    refine rb_iload rfl ?_
                    refine rb_push ?_
                    refine rb_push ?_
                    apply rb_callS3
                    case hcl => exact rfl
                    case hc =>
                      apply ex_X9_in
                      refine rn_step rfl ?_
                      refine rb_iload rfl ?_
                      refine rb_iload rfl ?_
                      refine rb_clt (fun h => absurd h (by decide)) (fun _ => ?_)
                      refine rb_iload rfl ?_
                      refine rb_iload rfl ?_
                      refine rb_cgt (fun h => absurd h (by decide)) (fun _ => ?_)
                      refine rb_push ?_
                      refine rb_goto ?_
                      refine rn_step rfl ?_
                      refine rb_ret rfl rfl
                    refine rb_ret rfl rfl
                  refine rb_ieq (fun h => absurd h (by decide)) (fun _ => ?_)
                  refine rb_iload rfl ?_
                  apply rb_callS1
                  case hcl => exact rfl
                  case hc =>
                    apply ex_X9_isSheet
                    refine rn_step rfl ?_
                    refine rb_iload rfl ?_
                    refine rb_push ?_
                    refine rb_push ?_
                    apply rb_callS3
                    case hcl => exact rfl
                    case hc =>
                      apply ex_X9_in
                      refine rn_step rfl ?_
                      refine rb_iload rfl ?_
                      refine rb_iload rfl ?_
                      refine rb_clt (fun h => absurd h (by decide)) (fun _ => ?_)
                      refine rb_iload rfl ?_
                      refine rb_iload rfl ?_
                      refine rb_cgt (fun h => absurd h (by decide)) (fun _ => ?_)
                      refine rb_push ?_
                      refine rb_goto ?_
                      refine rn_step rfl ?_
                      refine rb_ret rfl rfl
                    refine rb_ret rfl rfl
                  refine rb_ine (fun _ => ?_) (fun h => absurd (by decide) h)
                  refine rn_step rfl ?_
                  refine rb_aload rfl ?_
                  refine rb_getf (v := .ref 83) rfl ?_
                  refine rb_iload rfl ?_
                  refine rb_iald rfl (by decide) (show _ = some ((-1)) from rfl) ?_
                  refine rb_ilt (fun _ => ?_) (fun h => absurd (by decide) h)
                  refine rn_step rfl ?_
                  refine rb_push ?_
                  refine rb_ret rfl rfl
                case h3 => exact s1_ok
                case h4 => exact rfl
              ·
                rcases ia_cut (c := 2) hlc hhc with ⟨hlc, hhc⟩ | ⟨hlc, hhc⟩
                ·
                  obtain rfl : c = 1 := ia_one hlc hhc (by decide) (by decide)
                  apply p1_intro (v := (-1000000011))
                  case h1 =>
                    apply ex_X8_copy
                    refine rn_step rfl ?_
                    refine rb_iload rfl ?_
                    apply rb_callS1
                    case hcl => exact rfl
                    case hc =>
                      apply ex_X8_isSheet
                      refine rn_step rfl ?_
                      refine rb_iload rfl ?_
                      refine rb_push ?_
                      refine rb_push ?_
                      apply rb_callS3
                      case hcl => exact rfl
                      case hc =>
                        apply ex_X8_within
                        refine rn_step rfl ?_
                        refine rb_iload rfl ?_
                        refine rb_iload rfl ?_
                        refine rb_clt (fun h => absurd h (by decide)) (fun _ => ?_)
                        refine rb_iload rfl ?_
                        refine rb_iload rfl ?_
                        refine rb_cgt (fun h => absurd h (by decide)) (fun _ => ?_)
                        refine rb_push ?_
                        refine rb_goto ?_
                        refine rn_step rfl ?_
                        refine rb_ret rfl rfl
                      refine rb_ret rfl rfl
                    refine rb_ieq (fun h => absurd h (by decide)) (fun _ => ?_)
                    refine rb_iload rfl ?_
                    apply rb_callS1
                    case hcl => exact rfl
                    case hc =>
                      apply ex_X8_isSheet
                      refine rn_step rfl ?_
                      refine rb_iload rfl ?_
                      refine rb_push ?_
                      refine rb_push ?_
                      apply rb_callS3
                      case hcl => exact rfl
                      case hc =>
                        apply ex_X8_within
                        refine rn_step rfl ?_
                        refine rb_iload rfl ?_
                        refine rb_iload rfl ?_
                        refine rb_clt (fun h => absurd h (by decide)) (fun _ => ?_)
                        refine rb_iload rfl ?_
                        refine rb_iload rfl ?_
                        refine rb_cgt (fun h => absurd h (by decide)) (fun _ => ?_)
                        refine rb_push ?_
                        refine rb_goto ?_
                        refine rn_step rfl ?_
                        refine rb_ret rfl rfl
                      refine rb_ret rfl rfl
                    refine rb_ine (fun _ => ?_) (fun h => absurd (by decide) h)
                    refine rn_step rfl ?_
                    refine rb_aload rfl ?_
                    refine rb_getf (v := .ref 42) rfl ?_
                    refine rb_iload rfl ?_
                    refine rb_aaldR rfl (by decide) rfl ?_
                    refine rb_astore (lv' := [some (.ref 0), some (.int 1), some (.int (b)), some (.int 1), some (.int (d)), some (.int (e)), some (.ref 47), none]) rfl ?_
                    refine rb_aload rfl ?_
                    refine rb_getf (v := .ref 42) rfl ?_
                    refine rb_iload rfl ?_
                    refine rb_aaldR rfl (by decide) rfl ?_
                    refine rb_astore (lv' := [some (.ref 0), some (.int 1), some (.int (b)), some (.int 1), some (.int (d)), some (.int (e)), some (.ref 47), some (.ref 47)]) rfl ?_
                    refine rb_aload rfl ?_
                    apply rb_callV0
                    case hb => exact rfl
                    case hcl => exact rfl
                    case hc =>
                      apply ex_X2_isMissing
                      refine rn_step rfl ?_
                      refine rb_aload rfl ?_
                      refine rb_getf (v := .int (-1)) rfl ?_
                      refine rb_push ?_
                      refine rb_cne (fun h => absurd (by decide) h) (fun _ => ?_)
                      refine rb_push ?_
                      refine rb_goto ?_
                      refine rn_step rfl ?_
                      refine rb_ret rfl rfl
                    refine rb_ine (fun _ => ?_) (fun h => absurd (by decide) h)
                    refine rn_step rfl ?_
                    refine rb_push ?_
                    refine rb_ret rfl rfl
                  case h2 =>
                    apply ex_X9_copy
                    refine rn_step rfl ?_
                    refine rb_iload rfl ?_
                    apply rb_callS1
                    case hcl => exact rfl
                    case hc =>
                      apply ex_X9_isSheet
                      refine rn_step rfl ?_
                      refine rb_iload rfl ?_
                      refine rb_push ?_
                      refine rb_push ?_
                      apply rb_callS3
                      case hcl => exact rfl
                      case hc =>
                        apply ex_X9_in
                        refine rn_step rfl ?_
                        refine rb_iload rfl ?_
                        refine rb_iload rfl ?_
                        refine rb_clt (fun h => absurd h (by decide)) (fun _ => ?_)
                        refine rb_iload rfl ?_
                        refine rb_iload rfl ?_
                        refine rb_cgt (fun h => absurd h (by decide)) (fun _ => ?_)
                        refine rb_push ?_
                        refine rb_goto ?_
                        refine rn_step rfl ?_
                        refine rb_ret rfl rfl
                      refine rb_ret rfl rfl
                    refine rb_ieq (fun h => absurd h (by decide)) (fun _ => ?_)
                    refine rb_iload rfl ?_
                    apply rb_callS1
                    case hcl => exact rfl
                    case hc =>
                      apply ex_X9_isSheet
                      refine rn_step rfl ?_
                      refine rb_iload rfl ?_
                      refine rb_push ?_
                      refine rb_push ?_
                      apply rb_callS3
                      case hcl => exact rfl
                      case hc =>
                        apply ex_X9_in
                        refine rn_step rfl ?_
                        refine rb_iload rfl ?_
                        refine rb_iload rfl ?_
                        refine rb_clt (fun h => absurd h (by decide)) (fun _ => ?_)
                        refine rb_iload rfl ?_
                        refine rb_iload rfl ?_
                        refine rb_cgt (fun h => absurd h (by decide)) (fun _ => ?_)
                        refine rb_push ?_
                        refine rb_goto ?_
                        refine rn_step rfl ?_
                        refine rb_ret rfl rfl
                      refine rb_ret rfl rfl
                    refine rb_ine (fun _ => ?_) (fun h => absurd (by decide) h)
                    refine rn_step rfl ?_
                    refine rb_aload rfl ?_
                    refine rb_getf (v := .ref 83) rfl ?_
                    refine rb_iload rfl ?_
                    refine rb_iald rfl (by decide) (show _ = some ((-1)) from rfl) ?_
                    refine rb_ilt (fun _ => ?_) (fun h => absurd (by decide) h)
                    refine rn_step rfl ?_
                    refine rb_push ?_
                    refine rb_ret rfl rfl
                  case h3 => exact s1_ok
                  case h4 => exact rfl
                ·
                  rcases ia_cut (c := 3) hlc hhc with ⟨hlc, hhc⟩ | ⟨hlc, hhc⟩
                  ·
                    obtain rfl : c = 2 := ia_one hlc hhc (by decide) (by decide)
                    apply p1_intro (v := (-1000000011))
                    case h1 =>
                      apply ex_X8_copy
                      refine rn_step rfl ?_
                      refine rb_iload rfl ?_
                      apply rb_callS1
                      case hcl => exact rfl
                      case hc =>
                        apply ex_X8_isSheet
                        refine rn_step rfl ?_
                        refine rb_iload rfl ?_
                        refine rb_push ?_
                        refine rb_push ?_
                        apply rb_callS3
                        case hcl => exact rfl
                        case hc =>
                          apply ex_X8_within
                          refine rn_step rfl ?_
                          refine rb_iload rfl ?_
                          refine rb_iload rfl ?_
                          refine rb_clt (fun h => absurd h (by decide)) (fun _ => ?_)
                          refine rb_iload rfl ?_
                          refine rb_iload rfl ?_
                          refine rb_cgt (fun h => absurd h (by decide)) (fun _ => ?_)
                          refine rb_push ?_
                          refine rb_goto ?_
                          refine rn_step rfl ?_
                          refine rb_ret rfl rfl
                        refine rb_ret rfl rfl
                      refine rb_ieq (fun h => absurd h (by decide)) (fun _ => ?_)
                      refine rb_iload rfl ?_
                      apply rb_callS1
                      case hcl => exact rfl
                      case hc =>
                        apply ex_X8_isSheet
                        refine rn_step rfl ?_
                        refine rb_iload rfl ?_
                        refine rb_push ?_
                        refine rb_push ?_
                        apply rb_callS3
                        case hcl => exact rfl
                        case hc =>
                          apply ex_X8_within
                          refine rn_step rfl ?_
                          refine rb_iload rfl ?_
                          refine rb_iload rfl ?_
                          refine rb_clt (fun h => absurd h (by decide)) (fun _ => ?_)
                          refine rb_iload rfl ?_
                          refine rb_iload rfl ?_
                          refine rb_cgt (fun h => absurd h (by decide)) (fun _ => ?_)
                          refine rb_push ?_
                          refine rb_goto ?_
                          refine rn_step rfl ?_
                          refine rb_ret rfl rfl
                        refine rb_ret rfl rfl
                      refine rb_ine (fun _ => ?_) (fun h => absurd (by decide) h)
                      refine rn_step rfl ?_
                      refine rb_aload rfl ?_
                      refine rb_getf (v := .ref 42) rfl ?_
                      refine rb_iload rfl ?_
                      refine rb_aaldR rfl (by decide) rfl ?_
                      refine rb_astore (lv' := [some (.ref 0), some (.int 1), some (.int (b)), some (.int 2), some (.int (d)), some (.int (e)), some (.ref 47), none]) rfl ?_
                      refine rb_aload rfl ?_
                      refine rb_getf (v := .ref 42) rfl ?_
                      refine rb_iload rfl ?_
                      refine rb_aaldR rfl (by decide) rfl ?_
                      refine rb_astore (lv' := [some (.ref 0), some (.int 1), some (.int (b)), some (.int 2), some (.int (d)), some (.int (e)), some (.ref 47), some (.ref 49)]) rfl ?_
                      refine rb_aload rfl ?_
                      apply rb_callV0
                      case hb => exact rfl
                      case hcl => exact rfl
                      case hc =>
                        apply ex_X2_isMissing
                        refine rn_step rfl ?_
                        refine rb_aload rfl ?_
                        refine rb_getf (v := .int (-1)) rfl ?_
                        refine rb_push ?_
                        refine rb_cne (fun h => absurd (by decide) h) (fun _ => ?_)
                        refine rb_push ?_
                        refine rb_goto ?_
                        refine rn_step rfl ?_
                        refine rb_ret rfl rfl
                      refine rb_ine (fun _ => ?_) (fun h => absurd (by decide) h)
                      refine rn_step rfl ?_
                      refine rb_push ?_
                      refine rb_ret rfl rfl
                    case h2 =>
                      apply ex_X9_copy
                      refine rn_step rfl ?_
                      refine rb_iload rfl ?_
                      apply rb_callS1
                      case hcl => exact rfl
                      case hc =>
                        apply ex_X9_isSheet
                        refine rn_step rfl ?_
                        refine rb_iload rfl ?_
                        refine rb_push ?_
                        refine rb_push ?_
                        apply rb_callS3
                        case hcl => exact rfl
                        case hc =>
                          apply ex_X9_in
                          refine rn_step rfl ?_
                          refine rb_iload rfl ?_
                          refine rb_iload rfl ?_
                          refine rb_clt (fun h => absurd h (by decide)) (fun _ => ?_)
                          refine rb_iload rfl ?_
                          refine rb_iload rfl ?_
                          refine rb_cgt (fun h => absurd h (by decide)) (fun _ => ?_)
                          refine rb_push ?_
                          refine rb_goto ?_
                          refine rn_step rfl ?_
                          refine rb_ret rfl rfl
                        refine rb_ret rfl rfl
                      refine rb_ieq (fun h => absurd h (by decide)) (fun _ => ?_)
                      refine rb_iload rfl ?_
                      apply rb_callS1
                      case hcl => exact rfl
                      case hc =>
                        apply ex_X9_isSheet
                        refine rn_step rfl ?_
                        refine rb_iload rfl ?_
                        refine rb_push ?_
                        refine rb_push ?_
                        apply rb_callS3
                        case hcl => exact rfl
                        case hc =>
                          apply ex_X9_in
                          refine rn_step rfl ?_
                          refine rb_iload rfl ?_
                          refine rb_iload rfl ?_
                          refine rb_clt (fun h => absurd h (by decide)) (fun _ => ?_)
                          refine rb_iload rfl ?_
                          refine rb_iload rfl ?_
                          refine rb_cgt (fun h => absurd h (by decide)) (fun _ => ?_)
                          refine rb_push ?_
                          refine rb_goto ?_
                          refine rn_step rfl ?_
                          refine rb_ret rfl rfl
                        refine rb_ret rfl rfl
                      refine rb_ine (fun _ => ?_) (fun h => absurd (by decide) h)
                      refine rn_step rfl ?_
                      refine rb_aload rfl ?_
                      refine rb_getf (v := .ref 83) rfl ?_
                      refine rb_iload rfl ?_
                      refine rb_iald rfl (by decide) (show _ = some ((-1)) from rfl) ?_
                      refine rb_ilt (fun _ => ?_) (fun h => absurd (by decide) h)
                      refine rn_step rfl ?_
                      refine rb_push ?_
                      refine rb_ret rfl rfl
                    case h3 => exact s1_ok
                    case h4 => exact rfl
                  ·
                    obtain rfl : c = 3 := ia_one hlc hhc (by decide) (by decide)
                    apply p1_intro (v := (-1000000011))
                    case h1 =>
                      apply ex_X8_copy
                      refine rn_step rfl ?_
                      refine rb_iload rfl ?_
                      apply rb_callS1
                      case hcl => exact rfl
                      case hc =>
                        apply ex_X8_isSheet
                        refine rn_step rfl ?_
                        refine rb_iload rfl ?_
                        refine rb_push ?_
                        refine rb_push ?_
                        apply rb_callS3
                        case hcl => exact rfl
                        case hc =>
                          apply ex_X8_within
                          refine rn_step rfl ?_
                          refine rb_iload rfl ?_
                          refine rb_iload rfl ?_
                          refine rb_clt (fun h => absurd h (by decide)) (fun _ => ?_)
                          refine rb_iload rfl ?_
                          refine rb_iload rfl ?_
                          refine rb_cgt (fun h => absurd h (by decide)) (fun _ => ?_)
                          refine rb_push ?_
                          refine rb_goto ?_
                          refine rn_step rfl ?_
                          refine rb_ret rfl rfl
                        refine rb_ret rfl rfl
                      refine rb_ieq (fun h => absurd h (by decide)) (fun _ => ?_)
                      refine rb_iload rfl ?_
                      apply rb_callS1
                      case hcl => exact rfl
                      case hc =>
                        apply ex_X8_isSheet
                        refine rn_step rfl ?_
                        refine rb_iload rfl ?_
                        refine rb_push ?_
                        refine rb_push ?_
                        apply rb_callS3
                        case hcl => exact rfl
                        case hc =>
                          apply ex_X8_within
                          refine rn_step rfl ?_
                          refine rb_iload rfl ?_
                          refine rb_iload rfl ?_
                          refine rb_clt (fun h => absurd h (by decide)) (fun _ => ?_)
                          refine rb_iload rfl ?_
                          refine rb_iload rfl ?_
                          refine rb_cgt (fun h => absurd h (by decide)) (fun _ => ?_)
                          refine rb_push ?_
                          refine rb_goto ?_
                          refine rn_step rfl ?_
                          refine rb_ret rfl rfl
                        refine rb_ret rfl rfl
                      refine rb_ine (fun _ => ?_) (fun h => absurd (by decide) h)
                      refine rn_step rfl ?_
                      refine rb_aload rfl ?_
                      refine rb_getf (v := .ref 42) rfl ?_
                      refine rb_iload rfl ?_
                      refine rb_aaldR rfl (by decide) rfl ?_
                      refine rb_astore (lv' := [some (.ref 0), some (.int 1), some (.int (b)), some (.int 3), some (.int (d)), some (.int (e)), some (.ref 47), none]) rfl ?_
                      refine rb_aload rfl ?_
                      refine rb_getf (v := .ref 42) rfl ?_
                      refine rb_iload rfl ?_
                      refine rb_aaldR rfl (by decide) rfl ?_
                      refine rb_astore (lv' := [some (.ref 0), some (.int 1), some (.int (b)), some (.int 3), some (.int (d)), some (.int (e)), some (.ref 47), some (.ref 51)]) rfl ?_
                      refine rb_aload rfl ?_
                      apply rb_callV0
                      case hb => exact rfl
                      case hcl => exact rfl
                      case hc =>
                        apply ex_X2_isMissing
                        refine rn_step rfl ?_
                        refine rb_aload rfl ?_
                        refine rb_getf (v := .int (-1)) rfl ?_
                        refine rb_push ?_
                        refine rb_cne (fun h => absurd (by decide) h) (fun _ => ?_)
                        refine rb_push ?_
                        refine rb_goto ?_
                        refine rn_step rfl ?_
                        refine rb_ret rfl rfl
                      refine rb_ine (fun _ => ?_) (fun h => absurd (by decide) h)
                      refine rn_step rfl ?_
                      refine rb_push ?_
                      refine rb_ret rfl rfl
                    case h2 =>
                      apply ex_X9_copy
                      refine rn_step rfl ?_
                      refine rb_iload rfl ?_
                      apply rb_callS1
                      case hcl => exact rfl
                      case hc =>
                        apply ex_X9_isSheet
                        refine rn_step rfl ?_
                        refine rb_iload rfl ?_
                        refine rb_push ?_
                        refine rb_push ?_
                        apply rb_callS3
                        case hcl => exact rfl
                        case hc =>
                          apply ex_X9_in
                          refine rn_step rfl ?_
                          refine rb_iload rfl ?_
                          refine rb_iload rfl ?_
                          refine rb_clt (fun h => absurd h (by decide)) (fun _ => ?_)
                          refine rb_iload rfl ?_
                          refine rb_iload rfl ?_
                          refine rb_cgt (fun h => absurd h (by decide)) (fun _ => ?_)
                          refine rb_push ?_
                          refine rb_goto ?_
                          refine rn_step rfl ?_
                          refine rb_ret rfl rfl
                        refine rb_ret rfl rfl
                      refine rb_ieq (fun h => absurd h (by decide)) (fun _ => ?_)
                      refine rb_iload rfl ?_
                      apply rb_callS1
                      case hcl => exact rfl
                      case hc =>
                        apply ex_X9_isSheet
                        refine rn_step rfl ?_
                        refine rb_iload rfl ?_
                        refine rb_push ?_
                        refine rb_push ?_
                        apply rb_callS3
                        case hcl => exact rfl
                        case hc =>
                          apply ex_X9_in
                          refine rn_step rfl ?_
                          refine rb_iload rfl ?_
                          refine rb_iload rfl ?_
                          refine rb_clt (fun h => absurd h (by decide)) (fun _ => ?_)
                          refine rb_iload rfl ?_
                          refine rb_iload rfl ?_
                          refine rb_cgt (fun h => absurd h (by decide)) (fun _ => ?_)
                          refine rb_push ?_
                          refine rb_goto ?_
                          refine rn_step rfl ?_
                          refine rb_ret rfl rfl
                        refine rb_ret rfl rfl
                      refine rb_ine (fun _ => ?_) (fun h => absurd (by decide) h)
                      refine rn_step rfl ?_
                      refine rb_aload rfl ?_
                      refine rb_getf (v := .ref 83) rfl ?_
                      refine rb_iload rfl ?_
                      refine rb_iald rfl (by decide) (show _ = some ((-1)) from rfl) ?_
                      refine rb_ilt (fun _ => ?_) (fun h => absurd (by decide) h)
                      refine rn_step rfl ?_
                      refine rb_push ?_
                      refine rb_ret rfl rfl
                    case h3 => exact s1_ok
                    case h4 => exact rfl
            ·
              rcases ia_cut (c := 3) hla hha with ⟨hla, hha⟩ | ⟨hla, hha⟩
              ·
                obtain rfl : a = 2 := ia_one hla hha (by decide) (by decide)
                rcases ia_cut (c := 1) hlc hhc with ⟨hlc, hhc⟩ | ⟨hlc, hhc⟩
                ·
                  obtain rfl : c = 0 := ia_one hlc hhc (by decide) (by decide)
                  apply p1_intro (v := (-1000000011))
                  case h1 =>
                    apply ex_X8_copy
                    refine rn_step rfl ?_
                    refine rb_iload rfl ?_
                    apply rb_callS1
                    case hcl => exact rfl
                    case hc =>
                      apply ex_X8_isSheet
                      refine rn_step rfl ?_
                      refine rb_iload rfl ?_
                      refine rb_push ?_
                      refine rb_push ?_
                      apply rb_callS3
                      case hcl => exact rfl
                      case hc =>
                        apply ex_X8_within
                        refine rn_step rfl ?_
                        refine rb_iload rfl ?_
                        refine rb_iload rfl ?_
                        refine rb_clt (fun h => absurd h (by decide)) (fun _ => ?_)
                        refine rb_iload rfl ?_
                        refine rb_iload rfl ?_
                        refine rb_cgt (fun h => absurd h (by decide)) (fun _ => ?_)
                        refine rb_push ?_
                        refine rb_goto ?_
                        refine rn_step rfl ?_
                        refine rb_ret rfl rfl
                      refine rb_ret rfl rfl
                    refine rb_ieq (fun h => absurd h (by decide)) (fun _ => ?_)
                    refine rb_iload rfl ?_
                    apply rb_callS1
                    case hcl => exact rfl
                    case hc =>
                      apply ex_X8_isSheet
                      refine rn_step rfl ?_
                      refine rb_iload rfl ?_
                      refine rb_push ?_
                      refine rb_push ?_
                      apply rb_callS3
                      case hcl => exact rfl
                      case hc =>
                        apply ex_X8_within
                        refine rn_step rfl ?_
                        refine rb_iload rfl ?_
                        refine rb_iload rfl ?_
                        refine rb_clt (fun h => absurd h (by decide)) (fun _ => ?_)
                        refine rb_iload rfl ?_
                        refine rb_iload rfl ?_
                        refine rb_cgt (fun h => absurd h (by decide)) (fun _ => ?_)
                        refine rb_push ?_
                        refine rb_goto ?_
                        refine rn_step rfl ?_
                        refine rb_ret rfl rfl
                      refine rb_ret rfl rfl
                    refine rb_ine (fun _ => ?_) (fun h => absurd (by decide) h)
                    refine rn_step rfl ?_
                    refine rb_aload rfl ?_
                    refine rb_getf (v := .ref 42) rfl ?_
                    refine rb_iload rfl ?_
                    refine rb_aaldR rfl (by decide) rfl ?_
                    refine rb_astore (lv' := [some (.ref 0), some (.int 2), some (.int (b)), some (.int 0), some (.int (d)), some (.int (e)), some (.ref 49), none]) rfl ?_
                    refine rb_aload rfl ?_
                    refine rb_getf (v := .ref 42) rfl ?_
                    refine rb_iload rfl ?_
                    refine rb_aaldR rfl (by decide) rfl ?_
                    refine rb_astore (lv' := [some (.ref 0), some (.int 2), some (.int (b)), some (.int 0), some (.int (d)), some (.int (e)), some (.ref 49), some (.ref 45)]) rfl ?_
                    refine rb_aload rfl ?_
                    apply rb_callV0
                    case hb => exact rfl
                    case hcl => exact rfl
                    case hc =>
                      apply ex_X2_isMissing
                      refine rn_step rfl ?_
                      refine rb_aload rfl ?_
                      refine rb_getf (v := .int (-1)) rfl ?_
                      refine rb_push ?_
                      refine rb_cne (fun h => absurd (by decide) h) (fun _ => ?_)
                      refine rb_push ?_
                      refine rb_goto ?_
                      refine rn_step rfl ?_
                      refine rb_ret rfl rfl
                    refine rb_ine (fun _ => ?_) (fun h => absurd (by decide) h)
                    refine rn_step rfl ?_
                    refine rb_push ?_
                    refine rb_ret rfl rfl
                  case h2 =>
                    apply ex_X9_copy
                    refine rn_step rfl ?_
                    refine rb_iload rfl ?_
                    apply rb_callS1
                    case hcl => exact rfl
                    case hc =>
                      apply ex_X9_isSheet
                      refine rn_step rfl ?_
                      refine rb_iload rfl ?_
                      refine rb_push ?_
                      refine rb_push ?_
                      apply rb_callS3
                      case hcl => exact rfl
                      case hc =>
                        apply ex_X9_in
                        refine rn_step rfl ?_
                        refine rb_iload rfl ?_
                        refine rb_iload rfl ?_
                        refine rb_clt (fun h => absurd h (by decide)) (fun _ => ?_)
                        refine rb_iload rfl ?_
                        refine rb_iload rfl ?_
                        refine rb_cgt (fun h => absurd h (by decide)) (fun _ => ?_)
                        refine rb_push ?_
                        refine rb_goto ?_
                        refine rn_step rfl ?_
                        refine rb_ret rfl rfl
                      refine rb_ret rfl rfl
                    refine rb_ieq (fun h => absurd h (by decide)) (fun _ => ?_)
                    refine rb_iload rfl ?_
                    apply rb_callS1
                    case hcl => exact rfl
                    case hc =>
                      apply ex_X9_isSheet
                      refine rn_step rfl ?_
                      refine rb_iload rfl ?_
                      refine rb_push ?_
                      refine rb_push ?_
                      apply rb_callS3
                      case hcl => exact rfl
                      case hc =>
                        apply ex_X9_in
                        refine rn_step rfl ?_
                        refine rb_iload rfl ?_
                        refine rb_iload rfl ?_
                        refine rb_clt (fun h => absurd h (by decide)) (fun _ => ?_)
                        refine rb_iload rfl ?_
                        refine rb_iload rfl ?_
                        refine rb_cgt (fun h => absurd h (by decide)) (fun _ => ?_)
                        refine rb_push ?_
                        refine rb_goto ?_
                        refine rn_step rfl ?_
                        refine rb_ret rfl rfl
                      refine rb_ret rfl rfl
                    refine rb_ine (fun _ => ?_) (fun h => absurd (by decide) h)
                    refine rn_step rfl ?_
                    refine rb_aload rfl ?_
                    refine rb_getf (v := .ref 83) rfl ?_
                    refine rb_iload rfl ?_
                    refine rb_iald rfl (by decide) (show _ = some ((-1)) from rfl) ?_
                    refine rb_ilt (fun _ => ?_) (fun h => absurd (by decide) h)
                    refine rn_step rfl ?_
                    refine rb_push ?_
                    refine rb_ret rfl rfl
                  case h3 => exact s1_ok
                  case h4 => exact rfl
                ·
                  rcases ia_cut (c := 2) hlc hhc with ⟨hlc, hhc⟩ | ⟨hlc, hhc⟩
                  ·
                    obtain rfl : c = 1 := ia_one hlc hhc (by decide) (by decide)
                    apply p1_intro (v := (-1000000011))
                    case h1 =>
                      apply ex_X8_copy
                      refine rn_step rfl ?_
                      refine rb_iload rfl ?_
                      apply rb_callS1
                      case hcl => exact rfl
                      case hc =>
                        apply ex_X8_isSheet
                        refine rn_step rfl ?_
                        refine rb_iload rfl ?_
                        refine rb_push ?_
                        refine rb_push ?_
                        apply rb_callS3
                        case hcl => exact rfl
                        case hc =>
                          apply ex_X8_within
                          refine rn_step rfl ?_
                          refine rb_iload rfl ?_
                          refine rb_iload rfl ?_
                          refine rb_clt (fun h => absurd h (by decide)) (fun _ => ?_)
                          refine rb_iload rfl ?_
                          refine rb_iload rfl ?_
                          refine rb_cgt (fun h => absurd h (by decide)) (fun _ => ?_)
                          refine rb_push ?_
                          refine rb_goto ?_
                          refine rn_step rfl ?_
                          refine rb_ret rfl rfl
                        refine rb_ret rfl rfl
                      refine rb_ieq (fun h => absurd h (by decide)) (fun _ => ?_)
                      refine rb_iload rfl ?_
                      apply rb_callS1
                      case hcl => exact rfl
                      case hc =>
                        apply ex_X8_isSheet
                        refine rn_step rfl ?_
                        refine rb_iload rfl ?_
                        refine rb_push ?_
                        refine rb_push ?_
                        apply rb_callS3
                        case hcl => exact rfl
                        case hc =>
                          apply ex_X8_within
                          refine rn_step rfl ?_
                          refine rb_iload rfl ?_
                          refine rb_iload rfl ?_
                          refine rb_clt (fun h => absurd h (by decide)) (fun _ => ?_)
                          refine rb_iload rfl ?_
                          refine rb_iload rfl ?_
                          refine rb_cgt (fun h => absurd h (by decide)) (fun _ => ?_)
                          refine rb_push ?_
                          refine rb_goto ?_
                          refine rn_step rfl ?_
                          refine rb_ret rfl rfl
                        refine rb_ret rfl rfl
                      refine rb_ine (fun _ => ?_) (fun h => absurd (by decide) h)
                      refine rn_step rfl ?_
                      refine rb_aload rfl ?_
                      refine rb_getf (v := .ref 42) rfl ?_
                      refine rb_iload rfl ?_
                      refine rb_aaldR rfl (by decide) rfl ?_
                      refine rb_astore (lv' := [some (.ref 0), some (.int 2), some (.int (b)), some (.int 1), some (.int (d)), some (.int (e)), some (.ref 49), none]) rfl ?_
                      refine rb_aload rfl ?_
                      refine rb_getf (v := .ref 42) rfl ?_
                      refine rb_iload rfl ?_
                      refine rb_aaldR rfl (by decide) rfl ?_
                      refine rb_astore (lv' := [some (.ref 0), some (.int 2), some (.int (b)), some (.int 1), some (.int (d)), some (.int (e)), some (.ref 49), some (.ref 47)]) rfl ?_
                      refine rb_aload rfl ?_
                      apply rb_callV0
                      case hb => exact rfl
                      case hcl => exact rfl
                      case hc =>
                        apply ex_X2_isMissing
                        refine rn_step rfl ?_
                        refine rb_aload rfl ?_
                        refine rb_getf (v := .int (-1)) rfl ?_
                        refine rb_push ?_
                        refine rb_cne (fun h => absurd (by decide) h) (fun _ => ?_)
                        refine rb_push ?_
                        refine rb_goto ?_
                        refine rn_step rfl ?_
                        refine rb_ret rfl rfl
                      refine rb_ine (fun _ => ?_) (fun h => absurd (by decide) h)
                      refine rn_step rfl ?_
                      refine rb_push ?_
                      refine rb_ret rfl rfl
                    case h2 =>
                      apply ex_X9_copy
                      refine rn_step rfl ?_
                      refine rb_iload rfl ?_
                      apply rb_callS1
                      case hcl => exact rfl
                      case hc =>
                        apply ex_X9_isSheet
                        refine rn_step rfl ?_
                        refine rb_iload rfl ?_
                        refine rb_push ?_
                        refine rb_push ?_
                        apply rb_callS3
                        case hcl => exact rfl
                        case hc =>
                          apply ex_X9_in
                          refine rn_step rfl ?_
                          refine rb_iload rfl ?_
                          refine rb_iload rfl ?_
                          refine rb_clt (fun h => absurd h (by decide)) (fun _ => ?_)
                          refine rb_iload rfl ?_
                          refine rb_iload rfl ?_
                          refine rb_cgt (fun h => absurd h (by decide)) (fun _ => ?_)
                          refine rb_push ?_
                          refine rb_goto ?_
                          refine rn_step rfl ?_
                          refine rb_ret rfl rfl
                        refine rb_ret rfl rfl
                      refine rb_ieq (fun h => absurd h (by decide)) (fun _ => ?_)
                      refine rb_iload rfl ?_
                      apply rb_callS1
                      case hcl => exact rfl
                      case hc =>
                        apply ex_X9_isSheet
                        refine rn_step rfl ?_
                        refine rb_iload rfl ?_
                        refine rb_push ?_
                        refine rb_push ?_
                        apply rb_callS3
                        case hcl => exact rfl
                        case hc =>
                          apply ex_X9_in
                          refine rn_step rfl ?_
                          refine rb_iload rfl ?_
                          refine rb_iload rfl ?_
                          refine rb_clt (fun h => absurd h (by decide)) (fun _ => ?_)
                          refine rb_iload rfl ?_
                          refine rb_iload rfl ?_
                          refine rb_cgt (fun h => absurd h (by decide)) (fun _ => ?_)
                          refine rb_push ?_
                          refine rb_goto ?_
                          refine rn_step rfl ?_
                          refine rb_ret rfl rfl
                        refine rb_ret rfl rfl
                      refine rb_ine (fun _ => ?_) (fun h => absurd (by decide) h)
                      refine rn_step rfl ?_
                      refine rb_aload rfl ?_
                      refine rb_getf (v := .ref 83) rfl ?_
                      refine rb_iload rfl ?_
                      refine rb_iald rfl (by decide) (show _ = some ((-1)) from rfl) ?_
                      refine rb_ilt (fun _ => ?_) (fun h => absurd (by decide) h)
                      refine rn_step rfl ?_
                      refine rb_push ?_
                      refine rb_ret rfl rfl
                    case h3 => exact s1_ok
                    case h4 => exact rfl
                  ·
                    rcases ia_cut (c := 3) hlc hhc with ⟨hlc, hhc⟩ | ⟨hlc, hhc⟩
                    ·
                      obtain rfl : c = 2 := ia_one hlc hhc (by decide) (by decide)
                      apply p1_intro (v := (-1000000011))
                      case h1 =>
                        apply ex_X8_copy
                        refine rn_step rfl ?_
                        refine rb_iload rfl ?_
                        apply rb_callS1
                        case hcl => exact rfl
                        case hc =>
                          apply ex_X8_isSheet
                          refine rn_step rfl ?_
                          refine rb_iload rfl ?_
                          refine rb_push ?_
                          refine rb_push ?_
                          apply rb_callS3
                          case hcl => exact rfl
                          case hc =>
                            apply ex_X8_within
                            refine rn_step rfl ?_
                            refine rb_iload rfl ?_
                            refine rb_iload rfl ?_
                            refine rb_clt (fun h => absurd h (by decide)) (fun _ => ?_)
                            refine rb_iload rfl ?_
                            refine rb_iload rfl ?_
                            refine rb_cgt (fun h => absurd h (by decide)) (fun _ => ?_)
                            refine rb_push ?_
                            refine rb_goto ?_
                            refine rn_step rfl ?_
                            refine rb_ret rfl rfl
                          refine rb_ret rfl rfl
                        refine rb_ieq (fun h => absurd h (by decide)) (fun _ => ?_)
                        refine rb_iload rfl ?_
                        apply rb_callS1
                        case hcl => exact rfl
                        case hc =>
                          apply ex_X8_isSheet
                          refine rn_step rfl ?_
                          refine rb_iload rfl ?_
                          refine rb_push ?_
                          refine rb_push ?_
                          apply rb_callS3
                          case hcl => exact rfl
                          case hc =>
                            apply ex_X8_within
                            refine rn_step rfl ?_
                            refine rb_iload rfl ?_
                            refine rb_iload rfl ?_
                            refine rb_clt (fun h => absurd h (by decide)) (fun _ => ?_)
                            refine rb_iload rfl ?_
                            refine rb_iload rfl ?_
                            refine rb_cgt (fun h => absurd h (by decide)) (fun _ => ?_)
                            refine rb_push ?_
                            refine rb_goto ?_
                            refine rn_step rfl ?_
                            refine rb_ret rfl rfl
                          refine rb_ret rfl rfl
                        refine rb_ine (fun _ => ?_) (fun h => absurd (by decide) h)
                        refine rn_step rfl ?_
                        refine rb_aload rfl ?_
                        refine rb_getf (v := .ref 42) rfl ?_
                        refine rb_iload rfl ?_
                        refine rb_aaldR rfl (by decide) rfl ?_
                        refine rb_astore (lv' := [some (.ref 0), some (.int 2), some (.int (b)), some (.int 2), some (.int (d)), some (.int (e)), some (.ref 49), none]) rfl ?_
                        refine rb_aload rfl ?_
                        refine rb_getf (v := .ref 42) rfl ?_
                        refine rb_iload rfl ?_
                        refine rb_aaldR rfl (by decide) rfl ?_
                        refine rb_astore (lv' := [some (.ref 0), some (.int 2), some (.int (b)), some (.int 2), some (.int (d)), some (.int (e)), some (.ref 49), some (.ref 49)]) rfl ?_
                        refine rb_aload rfl ?_
                        apply rb_callV0
                        case hb => exact rfl
                        case hcl => exact rfl
                        case hc =>
                          apply ex_X2_isMissing
                          refine rn_step rfl ?_
                          refine rb_aload rfl ?_
                          refine rb_getf (v := .int (-1)) rfl ?_
                          refine rb_push ?_
                          refine rb_cne (fun h => absurd (by decide) h) (fun _ => ?_)
                          refine rb_push ?_
                          refine rb_goto ?_
                          refine rn_step rfl ?_
                          refine rb_ret rfl rfl
                        refine rb_ine (fun _ => ?_) (fun h => absurd (by decide) h)
                        refine rn_step rfl ?_
                        refine rb_push ?_
                        refine rb_ret rfl rfl
                      case h2 =>
                        apply ex_X9_copy
                        refine rn_step rfl ?_
                        refine rb_iload rfl ?_
                        apply rb_callS1
                        case hcl => exact rfl
                        case hc =>
                          apply ex_X9_isSheet
                          refine rn_step rfl ?_
                          refine rb_iload rfl ?_
                          refine rb_push ?_
                          refine rb_push ?_
                          apply rb_callS3
                          case hcl => exact rfl
                          case hc =>
                            apply ex_X9_in
                            refine rn_step rfl ?_
                            refine rb_iload rfl ?_
                            refine rb_iload rfl ?_
                            refine rb_clt (fun h => absurd h (by decide)) (fun _ => ?_)
                            refine rb_iload rfl ?_
                            refine rb_iload rfl ?_
                            refine rb_cgt (fun h => absurd h (by decide)) (fun _ => ?_)
                            refine rb_push ?_
                            refine rb_goto ?_
                            refine rn_step rfl ?_
                            refine rb_ret rfl rfl
                          refine rb_ret rfl rfl
                        refine rb_ieq (fun h => absurd h (by decide)) (fun _ => ?_)
                        refine rb_iload rfl ?_
                        apply rb_callS1
                        case hcl => exact rfl
                        case hc =>
                          apply ex_X9_isSheet
                          refine rn_step rfl ?_
                          refine rb_iload rfl ?_
                          refine rb_push ?_
                          refine rb_push ?_
                          apply rb_callS3
                          case hcl => exact rfl
                          case hc =>
                            apply ex_X9_in
                            refine rn_step rfl ?_
                            refine rb_iload rfl ?_
                            refine rb_iload rfl ?_
                            refine rb_clt (fun h => absurd h (by decide)) (fun _ => ?_)
                            refine rb_iload rfl ?_
                            refine rb_iload rfl ?_
                            refine rb_cgt (fun h => absurd h (by decide)) (fun _ => ?_)
                            refine rb_push ?_
                            refine rb_goto ?_
                            refine rn_step rfl ?_
                            refine rb_ret rfl rfl
                          refine rb_ret rfl rfl
                        refine rb_ine (fun _ => ?_) (fun h => absurd (by decide) h)
                        refine rn_step rfl ?_
                        refine rb_aload rfl ?_
                        refine rb_getf (v := .ref 83) rfl ?_
                        refine rb_iload rfl ?_
                        refine rb_iald rfl (by decide) (show _ = some ((-1)) from rfl) ?_
                        refine rb_ilt (fun _ => ?_) (fun h => absurd (by decide) h)
                        refine rn_step rfl ?_
                        refine rb_push ?_
                        refine rb_ret rfl rfl
                      case h3 => exact s1_ok
                      case h4 => exact rfl
                    ·
                      obtain rfl : c = 3 := ia_one hlc hhc (by decide) (by decide)
                      apply p1_intro (v := (-1000000011))
                      case h1 =>
                        apply ex_X8_copy
                        refine rn_step rfl ?_
                        refine rb_iload rfl ?_
                        apply rb_callS1
                        case hcl => exact rfl
                        case hc =>
                          apply ex_X8_isSheet
                          refine rn_step rfl ?_
                          refine rb_iload rfl ?_
                          refine rb_push ?_
                          refine rb_push ?_
                          apply rb_callS3
                          case hcl => exact rfl
                          case hc =>
                            apply ex_X8_within
                            refine rn_step rfl ?_
                            refine rb_iload rfl ?_
                            refine rb_iload rfl ?_
                            refine rb_clt (fun h => absurd h (by decide)) (fun _ => ?_)
                            refine rb_iload rfl ?_
                            refine rb_iload rfl ?_
                            refine rb_cgt (fun h => absurd h (by decide)) (fun _ => ?_)
                            refine rb_push ?_
                            refine rb_goto ?_
                            refine rn_step rfl ?_
                            refine rb_ret rfl rfl
                          refine rb_ret rfl rfl
                        refine rb_ieq (fun h => absurd h (by decide)) (fun _ => ?_)
                        refine rb_iload rfl ?_
                        apply rb_callS1
                        case hcl => exact rfl
                        case hc =>
                          apply ex_X8_isSheet
                          refine rn_step rfl ?_
                          refine rb_iload rfl ?_
                          refine rb_push ?_
                          refine rb_push ?_
                          apply rb_callS3
                          case hcl => exact rfl
                          case hc =>
                            apply ex_X8_within
                            refine rn_step rfl ?_
                            refine rb_iload rfl ?_
                            refine rb_iload rfl ?_
                            refine rb_clt (fun h => absurd h (by decide)) (fun _ => ?_)
                            refine rb_iload rfl ?_
                            refine rb_iload rfl ?_
                            refine rb_cgt (fun h => absurd h (by decide)) (fun _ => ?_)
                            refine rb_push ?_
                            refine rb_goto ?_
                            refine rn_step rfl ?_
                            refine rb_ret rfl rfl
                          refine rb_ret rfl rfl
                        refine rb_ine (fun _ => ?_) (fun h => absurd (by decide) h)
                        refine rn_step rfl ?_
                        refine rb_aload rfl ?_
                        refine rb_getf (v := .ref 42) rfl ?_
                        refine rb_iload rfl ?_
                        refine rb_aaldR rfl (by decide) rfl ?_
                        refine rb_astore (lv' := [some (.ref 0), some (.int 2), some (.int (b)), some (.int 3), some (.int (d)), some (.int (e)), some (.ref 49), none]) rfl ?_
                        refine rb_aload rfl ?_
                        refine rb_getf (v := .ref 42) rfl ?_
                        refine rb_iload rfl ?_
                        refine rb_aaldR rfl (by decide) rfl ?_
                        refine rb_astore (lv' := [some (.ref 0), some (.int 2), some (.int (b)), some (.int 3), some (.int (d)), some (.int (e)), some (.ref 49), some (.ref 51)]) rfl ?_
                        refine rb_aload rfl ?_
                        apply rb_callV0
                        case hb => exact rfl
                        case hcl => exact rfl
                        case hc =>
                          apply ex_X2_isMissing
                          refine rn_step rfl ?_
                          refine rb_aload rfl ?_
                          refine rb_getf (v := .int (-1)) rfl ?_
                          refine rb_push ?_
                          refine rb_cne (fun h => absurd (by decide) h) (fun _ => ?_)
                          refine rb_push ?_
                          refine rb_goto ?_
                          refine rn_step rfl ?_
                          refine rb_ret rfl rfl
                        refine rb_ine (fun _ => ?_) (fun h => absurd (by decide) h)
                        refine rn_step rfl ?_
                        refine rb_push ?_
                        refine rb_ret rfl rfl
                      case h2 =>
                        apply ex_X9_copy
                        refine rn_step rfl ?_
                        refine rb_iload rfl ?_
                        apply rb_callS1
                        case hcl => exact rfl
                        case hc =>
                          apply ex_X9_isSheet
                          refine rn_step rfl ?_
                          refine rb_iload rfl ?_
                          refine rb_push ?_
                          refine rb_push ?_
                          apply rb_callS3
                          case hcl => exact rfl
                          case hc =>
                            apply ex_X9_in
                            refine rn_step rfl ?_
                            refine rb_iload rfl ?_
                            refine rb_iload rfl ?_
                            refine rb_clt (fun h => absurd h (by decide)) (fun _ => ?_)
                            refine rb_iload rfl ?_
                            refine rb_iload rfl ?_
                            refine rb_cgt (fun h => absurd h (by decide)) (fun _ => ?_)
                            refine rb_push ?_
                            refine rb_goto ?_
                            refine rn_step rfl ?_
                            refine rb_ret rfl rfl
                          refine rb_ret rfl rfl
                        refine rb_ieq (fun h => absurd h (by decide)) (fun _ => ?_)
                        refine rb_iload rfl ?_
                        apply rb_callS1
                        case hcl => exact rfl
                        case hc =>
                          apply ex_X9_isSheet
                          refine rn_step rfl ?_
                          refine rb_iload rfl ?_
                          refine rb_push ?_
                          refine rb_push ?_
                          apply rb_callS3
                          case hcl => exact rfl
                          case hc =>
                            apply ex_X9_in
                            refine rn_step rfl ?_
                            refine rb_iload rfl ?_
                            refine rb_iload rfl ?_
                            refine rb_clt (fun h => absurd h (by decide)) (fun _ => ?_)
                            refine rb_iload rfl ?_
                            refine rb_iload rfl ?_
                            refine rb_cgt (fun h => absurd h (by decide)) (fun _ => ?_)
                            refine rb_push ?_
                            refine rb_goto ?_
                            refine rn_step rfl ?_
                            refine rb_ret rfl rfl
                          refine rb_ret rfl rfl
                        refine rb_ine (fun _ => ?_) (fun h => absurd (by decide) h)
                        refine rn_step rfl ?_
                        refine rb_aload rfl ?_
                        refine rb_getf (v := .ref 83) rfl ?_
                        refine rb_iload rfl ?_
                        refine rb_iald rfl (by decide) (show _ = some ((-1)) from rfl) ?_
                        refine rb_ilt (fun _ => ?_) (fun h => absurd (by decide) h)
                        refine rn_step rfl ?_
                        refine rb_push ?_
                        refine rb_ret rfl rfl
                      case h3 => exact s1_ok
                      case h4 => exact rfl
              ·
                obtain rfl : a = 3 := ia_one hla hha (by decide) (by decide)
                rcases ia_cut (c := 1) hlc hhc with ⟨hlc, hhc⟩ | ⟨hlc, hhc⟩
                ·
                  obtain rfl : c = 0 := ia_one hlc hhc (by decide) (by decide)
                  apply p1_intro (v := (-1000000011))
                  case h1 =>
                    apply ex_X8_copy
                    refine rn_step rfl ?_
                    refine rb_iload rfl ?_
                    apply rb_callS1
                    case hcl => exact rfl
                    case hc =>
                      apply ex_X8_isSheet
                      refine rn_step rfl ?_
                      refine rb_iload rfl ?_
                      refine rb_push ?_
                      refine rb_push ?_
                      apply rb_callS3
                      case hcl => exact rfl
                      case hc =>
                        apply ex_X8_within
                        refine rn_step rfl ?_
                        refine rb_iload rfl ?_
                        refine rb_iload rfl ?_
                        refine rb_clt (fun h => absurd h (by decide)) (fun _ => ?_)
                        refine rb_iload rfl ?_
                        refine rb_iload rfl ?_
                        refine rb_cgt (fun h => absurd h (by decide)) (fun _ => ?_)
                        refine rb_push ?_
                        refine rb_goto ?_
                        refine rn_step rfl ?_
                        refine rb_ret rfl rfl
                      refine rb_ret rfl rfl
                    refine rb_ieq (fun h => absurd h (by decide)) (fun _ => ?_)
                    refine rb_iload rfl ?_
                    apply rb_callS1
                    case hcl => exact rfl
                    case hc =>
                      apply ex_X8_isSheet
                      refine rn_step rfl ?_
                      refine rb_iload rfl ?_
                      refine rb_push ?_
                      refine rb_push ?_
                      apply rb_callS3
                      case hcl => exact rfl
                      case hc =>
                        apply ex_X8_within
                        refine rn_step rfl ?_
                        refine rb_iload rfl ?_
                        refine rb_iload rfl ?_
                        refine rb_clt (fun h => absurd h (by decide)) (fun _ => ?_)
                        refine rb_iload rfl ?_
                        refine rb_iload rfl ?_
                        refine rb_cgt (fun h => absurd h (by decide)) (fun _ => ?_)
                        refine rb_push ?_
                        refine rb_goto ?_
                        refine rn_step rfl ?_
                        refine rb_ret rfl rfl
                      refine rb_ret rfl rfl
                    refine rb_ine (fun _ => ?_) (fun h => absurd (by decide) h)
                    refine rn_step rfl ?_
                    refine rb_aload rfl ?_
                    refine rb_getf (v := .ref 42) rfl ?_
                    refine rb_iload rfl ?_
                    refine rb_aaldR rfl (by decide) rfl ?_
                    refine rb_astore (lv' := [some (.ref 0), some (.int 3), some (.int (b)), some (.int 0), some (.int (d)), some (.int (e)), some (.ref 51), none]) rfl ?_
                    refine rb_aload rfl ?_
                    refine rb_getf (v := .ref 42) rfl ?_
                    refine rb_iload rfl ?_
                    refine rb_aaldR rfl (by decide) rfl ?_
                    refine rb_astore (lv' := [some (.ref 0), some (.int 3), some (.int (b)), some (.int 0), some (.int (d)), some (.int (e)), some (.ref 51), some (.ref 45)]) rfl ?_
                    refine rb_aload rfl ?_
                    apply rb_callV0
                    case hb => exact rfl
                    case hcl => exact rfl
                    case hc =>
                      apply ex_X2_isMissing
                      refine rn_step rfl ?_
                      refine rb_aload rfl ?_
                      refine rb_getf (v := .int (-1)) rfl ?_
                      refine rb_push ?_
                      refine rb_cne (fun h => absurd (by decide) h) (fun _ => ?_)
                      refine rb_push ?_
                      refine rb_goto ?_
                      refine rn_step rfl ?_
                      refine rb_ret rfl rfl
                    refine rb_ine (fun _ => ?_) (fun h => absurd (by decide) h)
                    refine rn_step rfl ?_
                    refine rb_push ?_
                    refine rb_ret rfl rfl
                  case h2 =>
                    apply ex_X9_copy
                    refine rn_step rfl ?_
                    refine rb_iload rfl ?_
                    apply rb_callS1
                    case hcl => exact rfl
                    case hc =>
                      apply ex_X9_isSheet
                      refine rn_step rfl ?_
                      refine rb_iload rfl ?_
                      refine rb_push ?_
                      refine rb_push ?_
                      apply rb_callS3
                      case hcl => exact rfl
                      case hc =>
                        apply ex_X9_in
                        refine rn_step rfl ?_
                        refine rb_iload rfl ?_
                        refine rb_iload rfl ?_
                        refine rb_clt (fun h => absurd h (by decide)) (fun _ => ?_)
                        refine rb_iload rfl ?_
                        refine rb_iload rfl ?_
                        refine rb_cgt (fun h => absurd h (by decide)) (fun _ => ?_)
                        refine rb_push ?_
                        refine rb_goto ?_
                        refine rn_step rfl ?_
                        refine rb_ret rfl rfl
                      refine rb_ret rfl rfl
                    refine rb_ieq (fun h => absurd h (by decide)) (fun _ => ?_)
                    refine rb_iload rfl ?_
                    apply rb_callS1
                    case hcl => exact rfl
                    case hc =>
                      apply ex_X9_isSheet
                      refine rn_step rfl ?_
                      refine rb_iload rfl ?_
                      refine rb_push ?_
                      refine rb_push ?_
                      apply rb_callS3
                      case hcl => exact rfl
                      case hc =>
                        apply ex_X9_in
                        refine rn_step rfl ?_
                        refine rb_iload rfl ?_
                        refine rb_iload rfl ?_
                        refine rb_clt (fun h => absurd h (by decide)) (fun _ => ?_)
                        refine rb_iload rfl ?_
                        refine rb_iload rfl ?_
                        refine rb_cgt (fun h => absurd h (by decide)) (fun _ => ?_)
                        refine rb_push ?_
                        refine rb_goto ?_
                        refine rn_step rfl ?_
                        refine rb_ret rfl rfl
                      refine rb_ret rfl rfl
                    refine rb_ine (fun _ => ?_) (fun h => absurd (by decide) h)
                    refine rn_step rfl ?_
                    refine rb_aload rfl ?_
                    refine rb_getf (v := .ref 83) rfl ?_
                    refine rb_iload rfl ?_
                    refine rb_iald rfl (by decide) (show _ = some ((-1)) from rfl) ?_
                    refine rb_ilt (fun _ => ?_) (fun h => absurd (by decide) h)
                    refine rn_step rfl ?_
                    refine rb_push ?_
                    refine rb_ret rfl rfl
                  case h3 => exact s1_ok
                  case h4 => exact rfl
                ·
                  rcases ia_cut (c := 2) hlc hhc with ⟨hlc, hhc⟩ | ⟨hlc, hhc⟩
                  ·
                    obtain rfl : c = 1 := ia_one hlc hhc (by decide) (by decide)
                    apply p1_intro (v := (-1000000011))
                    case h1 =>
                      apply ex_X8_copy
                      refine rn_step rfl ?_
                      refine rb_iload rfl ?_
                      apply rb_callS1
                      case hcl => exact rfl
                      case hc =>
                        apply ex_X8_isSheet
                        refine rn_step rfl ?_
                        refine rb_iload rfl ?_
                        refine rb_push ?_
                        refine rb_push ?_
                        apply rb_callS3
                        case hcl => exact rfl
                        case hc =>
                          apply ex_X8_within
                          refine rn_step rfl ?_
                          refine rb_iload rfl ?_
                          refine rb_iload rfl ?_
                          refine rb_clt (fun h => absurd h (by decide)) (fun _ => ?_)
                          refine rb_iload rfl ?_
                          refine rb_iload rfl ?_
                          refine rb_cgt (fun h => absurd h (by decide)) (fun _ => ?_)
                          refine rb_push ?_
                          refine rb_goto ?_
                          refine rn_step rfl ?_
                          refine rb_ret rfl rfl
                        refine rb_ret rfl rfl
                      refine rb_ieq (fun h => absurd h (by decide)) (fun _ => ?_)
                      refine rb_iload rfl ?_
                      apply rb_callS1
                      case hcl => exact rfl
                      case hc =>
                        apply ex_X8_isSheet
                        refine rn_step rfl ?_
                        refine rb_iload rfl ?_
                        refine rb_push ?_
                        refine rb_push ?_
                        apply rb_callS3
                        case hcl => exact rfl
                        case hc =>
                          apply ex_X8_within
                          refine rn_step rfl ?_
                          refine rb_iload rfl ?_
                          refine rb_iload rfl ?_
                          refine rb_clt (fun h => absurd h (by decide)) (fun _ => ?_)
                          refine rb_iload rfl ?_
                          refine rb_iload rfl ?_
                          refine rb_cgt (fun h => absurd h (by decide)) (fun _ => ?_)
                          refine rb_push ?_
                          refine rb_goto ?_
                          refine rn_step rfl ?_
                          refine rb_ret rfl rfl
                        refine rb_ret rfl rfl
                      refine rb_ine (fun _ => ?_) (fun h => absurd (by decide) h)
                      refine rn_step rfl ?_
                      refine rb_aload rfl ?_
                      refine rb_getf (v := .ref 42) rfl ?_
                      refine rb_iload rfl ?_
                      refine rb_aaldR rfl (by decide) rfl ?_
                      refine rb_astore (lv' := [some (.ref 0), some (.int 3), some (.int (b)), some (.int 1), some (.int (d)), some (.int (e)), some (.ref 51), none]) rfl ?_
                      refine rb_aload rfl ?_
                      refine rb_getf (v := .ref 42) rfl ?_
                      refine rb_iload rfl ?_
                      refine rb_aaldR rfl (by decide) rfl ?_
                      refine rb_astore (lv' := [some (.ref 0), some (.int 3), some (.int (b)), some (.int 1), some (.int (d)), some (.int (e)), some (.ref 51), some (.ref 47)]) rfl ?_
                      refine rb_aload rfl ?_
                      apply rb_callV0
                      case hb => exact rfl
                      case hcl => exact rfl
                      case hc =>
                        apply ex_X2_isMissing
                        refine rn_step rfl ?_
                        refine rb_aload rfl ?_
                        refine rb_getf (v := .int (-1)) rfl ?_
                        refine rb_push ?_
                        refine rb_cne (fun h => absurd (by decide) h) (fun _ => ?_)
                        refine rb_push ?_
                        refine rb_goto ?_
                        refine rn_step rfl ?_
                        refine rb_ret rfl rfl
                      refine rb_ine (fun _ => ?_) (fun h => absurd (by decide) h)
                      refine rn_step rfl ?_
                      refine rb_push ?_
                      refine rb_ret rfl rfl
                    case h2 =>
                      apply ex_X9_copy
                      refine rn_step rfl ?_
                      refine rb_iload rfl ?_
                      apply rb_callS1
                      case hcl => exact rfl
                      case hc =>
                        apply ex_X9_isSheet
                        refine rn_step rfl ?_
                        refine rb_iload rfl ?_
                        refine rb_push ?_
                        refine rb_push ?_
                        apply rb_callS3
                        case hcl => exact rfl
                        case hc =>
                          apply ex_X9_in
                          refine rn_step rfl ?_
                          refine rb_iload rfl ?_
                          refine rb_iload rfl ?_
                          refine rb_clt (fun h => absurd h (by decide)) (fun _ => ?_)
                          refine rb_iload rfl ?_
                          refine rb_iload rfl ?_
                          refine rb_cgt (fun h => absurd h (by decide)) (fun _ => ?_)
                          refine rb_push ?_
                          refine rb_goto ?_
                          refine rn_step rfl ?_
                          refine rb_ret rfl rfl
                        refine rb_ret rfl rfl
                      refine rb_ieq (fun h => absurd h (by decide)) (fun _ => ?_)
                      refine rb_iload rfl ?_
                      apply rb_callS1
                      case hcl => exact rfl
                      case hc =>
                        apply ex_X9_isSheet
                        refine rn_step rfl ?_
                        refine rb_iload rfl ?_
                        refine rb_push ?_
                        refine rb_push ?_
                        apply rb_callS3
                        case hcl => exact rfl
                        case hc =>
                          apply ex_X9_in
                          refine rn_step rfl ?_
                          refine rb_iload rfl ?_
                          refine rb_iload rfl ?_
                          refine rb_clt (fun h => absurd h (by decide)) (fun _ => ?_)
                          refine rb_iload rfl ?_
                          refine rb_iload rfl ?_
                          refine rb_cgt (fun h => absurd h (by decide)) (fun _ => ?_)
                          refine rb_push ?_
                          refine rb_goto ?_
                          refine rn_step rfl ?_
                          refine rb_ret rfl rfl
                        refine rb_ret rfl rfl
                      refine rb_ine (fun _ => ?_) (fun h => absurd (by decide) h)
                      refine rn_step rfl ?_
                      refine rb_aload rfl ?_
                      refine rb_getf (v := .ref 83) rfl ?_
                      refine rb_iload rfl ?_
                      refine rb_iald rfl (by decide) (show _ = some ((-1)) from rfl) ?_
                      refine rb_ilt (fun _ => ?_) (fun h => absurd (by decide) h)
                      refine rn_step rfl ?_
                      refine rb_push ?_
                      refine rb_ret rfl rfl
                    case h3 => exact s1_ok
                    case h4 => exact rfl
                  ·
                    rcases ia_cut (c := 3) hlc hhc with ⟨hlc, hhc⟩ | ⟨hlc, hhc⟩
                    ·
                      obtain rfl : c = 2 := ia_one hlc hhc (by decide) (by decide)
                      apply p1_intro (v := (-1000000011))
                      case h1 =>
                        apply ex_X8_copy
                        refine rn_step rfl ?_
                        refine rb_iload rfl ?_
                        apply rb_callS1
                        case hcl => exact rfl
                        case hc =>
                          apply ex_X8_isSheet
                          refine rn_step rfl ?_
                          refine rb_iload rfl ?_
                          refine rb_push ?_
                          refine rb_push ?_
                          apply rb_callS3
                          case hcl => exact rfl
                          case hc =>
                            apply ex_X8_within
                            refine rn_step rfl ?_
                            refine rb_iload rfl ?_
                            refine rb_iload rfl ?_
                            refine rb_clt (fun h => absurd h (by decide)) (fun _ => ?_)
                            refine rb_iload rfl ?_
                            refine rb_iload rfl ?_
                            refine rb_cgt (fun h => absurd h (by decide)) (fun _ => ?_)
                            refine rb_push ?_
                            refine rb_goto ?_
                            refine rn_step rfl ?_
                            refine rb_ret rfl rfl
                          refine rb_ret rfl rfl
                        refine rb_ieq (fun h => absurd h (by decide)) (fun _ => ?_)
                        refine rb_iload rfl ?_
                        apply rb_callS1
                        case hcl => exact rfl
                        case hc =>
                          apply ex_X8_isSheet
                          refine rn_step rfl ?_
                          refine rb_iload rfl ?_
                          refine rb_push ?_
                          refine rb_push ?_
                          apply rb_callS3
                          case hcl => exact rfl
                          case hc =>
                            apply ex_X8_within
                            refine rn_step rfl ?_
                            refine rb_iload rfl ?_
                            refine rb_iload rfl ?_
                            refine rb_clt (fun h => absurd h (by decide)) (fun _ => ?_)
                            refine rb_iload rfl ?_
                            refine rb_iload rfl ?_
                            refine rb_cgt (fun h => absurd h (by decide)) (fun _ => ?_)
                            refine rb_push ?_
                            refine rb_goto ?_
                            refine rn_step rfl ?_
                            refine rb_ret rfl rfl
                          refine rb_ret rfl rfl
                        refine rb_ine (fun _ => ?_) (fun h => absurd (by decide) h)
                        refine rn_step rfl ?_
                        refine rb_aload rfl ?_
                        refine rb_getf (v := .ref 42) rfl ?_
                        refine rb_iload rfl ?_
                        refine rb_aaldR rfl (by decide) rfl ?_
                        refine rb_astore (lv' := [some (.ref 0), some (.int 3), some (.int (b)), some (.int 2), some (.int (d)), some (.int (e)), some (.ref 51), none]) rfl ?_
                        refine rb_aload rfl ?_
                        refine rb_getf (v := .ref 42) rfl ?_
                        refine rb_iload rfl ?_
                        refine rb_aaldR rfl (by decide) rfl ?_
                        refine rb_astore (lv' := [some (.ref 0), some (.int 3), some (.int (b)), some (.int 2), some (.int (d)), some (.int (e)), some (.ref 51), some (.ref 49)]) rfl ?_
                        refine rb_aload rfl ?_
                        apply rb_callV0
                        case hb => exact rfl
                        case hcl => exact rfl
                        case hc =>
                          apply ex_X2_isMissing
                          refine rn_step rfl ?_
                          refine rb_aload rfl ?_
                          refine rb_getf (v := .int (-1)) rfl ?_
                          refine rb_push ?_
                          refine rb_cne (fun h => absurd (by decide) h) (fun _ => ?_)
                          refine rb_push ?_
                          refine rb_goto ?_
                          refine rn_step rfl ?_
                          refine rb_ret rfl rfl
                        refine rb_ine (fun _ => ?_) (fun h => absurd (by decide) h)
                        refine rn_step rfl ?_
                        refine rb_push ?_
                        refine rb_ret rfl rfl
                      case h2 =>
                        apply ex_X9_copy
                        refine rn_step rfl ?_
                        refine rb_iload rfl ?_
                        apply rb_callS1
                        case hcl => exact rfl
                        case hc =>
                          apply ex_X9_isSheet
                          refine rn_step rfl ?_
                          refine rb_iload rfl ?_
                          refine rb_push ?_
                          refine rb_push ?_
                          apply rb_callS3
                          case hcl => exact rfl
                          case hc =>
                            apply ex_X9_in
                            refine rn_step rfl ?_
                            refine rb_iload rfl ?_
                            refine rb_iload rfl ?_
                            refine rb_clt (fun h => absurd h (by decide)) (fun _ => ?_)
                            refine rb_iload rfl ?_
                            refine rb_iload rfl ?_
                            refine rb_cgt (fun h => absurd h (by decide)) (fun _ => ?_)
                            refine rb_push ?_
                            refine rb_goto ?_
                            refine rn_step rfl ?_
                            refine rb_ret rfl rfl
                          refine rb_ret rfl rfl
                        refine rb_ieq (fun h => absurd h (by decide)) (fun _ => ?_)
                        refine rb_iload rfl ?_
                        apply rb_callS1
                        case hcl => exact rfl
                        case hc =>
                          apply ex_X9_isSheet
                          refine rn_step rfl ?_
                          refine rb_iload rfl ?_
                          refine rb_push ?_
                          refine rb_push ?_
                          apply rb_callS3
                          case hcl => exact rfl
                          case hc =>
                            apply ex_X9_in
                            refine rn_step rfl ?_
                            refine rb_iload rfl ?_
                            refine rb_iload rfl ?_
                            refine rb_clt (fun h => absurd h (by decide)) (fun _ => ?_)
                            refine rb_iload rfl ?_
                            refine rb_iload rfl ?_
                            refine rb_cgt (fun h => absurd h (by decide)) (fun _ => ?_)
                            refine rb_push ?_
                            refine rb_goto ?_
                            refine rn_step rfl ?_
                            refine rb_ret rfl rfl
                          refine rb_ret rfl rfl
                        refine rb_ine (fun _ => ?_) (fun h => absurd (by decide) h)
                        refine rn_step rfl ?_
                        refine rb_aload rfl ?_
                        refine rb_getf (v := .ref 83) rfl ?_
                        refine rb_iload rfl ?_
                        refine rb_iald rfl (by decide) (show _ = some ((-1)) from rfl) ?_
                        refine rb_ilt (fun _ => ?_) (fun h => absurd (by decide) h)
                        refine rn_step rfl ?_
                        refine rb_push ?_
                        refine rb_ret rfl rfl
                      case h3 => exact s1_ok
                      case h4 => exact rfl
                    ·
                      obtain rfl : c = 3 := ia_one hlc hhc (by decide) (by decide)
                      apply p1_intro (v := (-1000000011))
                      case h1 =>
                        apply ex_X8_copy
                        refine rn_step rfl ?_
                        refine rb_iload rfl ?_
                        apply rb_callS1
                        case hcl => exact rfl
                        case hc =>
                          apply ex_X8_isSheet
                          refine rn_step rfl ?_
                          refine rb_iload rfl ?_
                          refine rb_push ?_
                          refine rb_push ?_
                          apply rb_callS3
                          case hcl => exact rfl
                          case hc =>
                            apply ex_X8_within
                            refine rn_step rfl ?_
                            refine rb_iload rfl ?_
                            refine rb_iload rfl ?_
                            refine rb_clt (fun h => absurd h (by decide)) (fun _ => ?_)
                            refine rb_iload rfl ?_
                            refine rb_iload rfl ?_
                            refine rb_cgt (fun h => absurd h (by decide)) (fun _ => ?_)
                            refine rb_push ?_
                            refine rb_goto ?_
                            refine rn_step rfl ?_
                            refine rb_ret rfl rfl
                          refine rb_ret rfl rfl
                        refine rb_ieq (fun h => absurd h (by decide)) (fun _ => ?_)
                        refine rb_iload rfl ?_
                        apply rb_callS1
                        case hcl => exact rfl
                        case hc =>
                          apply ex_X8_isSheet
                          refine rn_step rfl ?_
                          refine rb_iload rfl ?_
                          refine rb_push ?_
                          refine rb_push ?_
                          apply rb_callS3
                          case hcl => exact rfl
                          case hc =>
                            apply ex_X8_within
                            refine rn_step rfl ?_
                            refine rb_iload rfl ?_
                            refine rb_iload rfl ?_
                            refine rb_clt (fun h => absurd h (by decide)) (fun _ => ?_)
                            refine rb_iload rfl ?_
                            refine rb_iload rfl ?_
                            refine rb_cgt (fun h => absurd h (by decide)) (fun _ => ?_)
                            refine rb_push ?_
                            refine rb_goto ?_
                            refine rn_step rfl ?_
                            refine rb_ret rfl rfl
                          refine rb_ret rfl rfl
                        refine rb_ine (fun _ => ?_) (fun h => absurd (by decide) h)
                        refine rn_step rfl ?_
                        refine rb_aload rfl ?_
                        refine rb_getf (v := .ref 42) rfl ?_
                        refine rb_iload rfl ?_
                        refine rb_aaldR rfl (by decide) rfl ?_
                        refine rb_astore (lv' := [some (.ref 0), some (.int 3), some (.int (b)), some (.int 3), some (.int (d)), some (.int (e)), some (.ref 51), none]) rfl ?_
                        refine rb_aload rfl ?_
                        refine rb_getf (v := .ref 42) rfl ?_
                        refine rb_iload rfl ?_
                        refine rb_aaldR rfl (by decide) rfl ?_
                        refine rb_astore (lv' := [some (.ref 0), some (.int 3), some (.int (b)), some (.int 3), some (.int (d)), some (.int (e)), some (.ref 51), some (.ref 51)]) rfl ?_
                        refine rb_aload rfl ?_
                        apply rb_callV0
                        case hb => exact rfl
                        case hcl => exact rfl
                        case hc =>
                          apply ex_X2_isMissing
                          refine rn_step rfl ?_
                          refine rb_aload rfl ?_
                          refine rb_getf (v := .int (-1)) rfl ?_
                          refine rb_push ?_
                          refine rb_cne (fun h => absurd (by decide) h) (fun _ => ?_)
                          refine rb_push ?_
                          refine rb_goto ?_
                          refine rn_step rfl ?_
                          refine rb_ret rfl rfl
                        refine rb_ine (fun _ => ?_) (fun h => absurd (by decide) h)
                        refine rn_step rfl ?_
                        refine rb_push ?_
                        refine rb_ret rfl rfl
                      case h2 =>
                        apply ex_X9_copy
                        refine rn_step rfl ?_
                        refine rb_iload rfl ?_
                        apply rb_callS1
                        case hcl => exact rfl
                        case hc =>
                          apply ex_X9_isSheet
                          refine rn_step rfl ?_
                          refine rb_iload rfl ?_
                          refine rb_push ?_
                          refine rb_push ?_
                          apply rb_callS3
                          case hcl => exact rfl
                          case hc =>
                            apply ex_X9_in
                            refine rn_step rfl ?_
                            refine rb_iload rfl ?_
                            refine rb_iload rfl ?_
                            refine rb_clt (fun h => absurd h (by decide)) (fun _ => ?_)
                            refine rb_iload rfl ?_
                            refine rb_iload rfl ?_
                            refine rb_cgt (fun h => absurd h (by decide)) (fun _ => ?_)
                            refine rb_push ?_
                            refine rb_goto ?_
                            refine rn_step rfl ?_
                            refine rb_ret rfl rfl
                          refine rb_ret rfl rfl
                        refine rb_ieq (fun h => absurd h (by decide)) (fun _ => ?_)
                        refine rb_iload rfl ?_
                        apply rb_callS1
                        case hcl => exact rfl
                        case hc =>
                          apply ex_X9_isSheet
                          refine rn_step rfl ?_
                          refine rb_iload rfl ?_
                          refine rb_push ?_
                          refine rb_push ?_
                          apply rb_callS3
                          case hcl => exact rfl
                          case hc =>
                            apply ex_X9_in
                            refine rn_step rfl ?_
                            refine rb_iload rfl ?_
                            refine rb_iload rfl ?_
                            refine rb_clt (fun h => absurd h (by decide)) (fun _ => ?_)
                            refine rb_iload rfl ?_
                            refine rb_iload rfl ?_
                            refine rb_cgt (fun h => absurd h (by decide)) (fun _ => ?_)
                            refine rb_push ?_
                            refine rb_goto ?_
                            refine rn_step rfl ?_
                            refine rb_ret rfl rfl
                          refine rb_ret rfl rfl
                        refine rb_ine (fun _ => ?_) (fun h => absurd (by decide) h)
                        refine rn_step rfl ?_
                        refine rb_aload rfl ?_
                        refine rb_getf (v := .ref 83) rfl ?_
                        refine rb_iload rfl ?_
                        refine rb_iald rfl (by decide) (show _ = some ((-1)) from rfl) ?_
                        refine rb_ilt (fun _ => ?_) (fun h => absurd (by decide) h)
                        refine rn_step rfl ?_
                        refine rb_push ?_
                        refine rb_ret rfl rfl
                      case h3 => exact s1_ok
                      case h4 => exact rfl
        ·
          apply p1_intro (v := (-1000000001))
          case h1 =>
            apply ex_X8_copy
            refine rn_step rfl ?_
            refine rb_iload rfl ?_
            apply rb_callS1
            case hcl => exact rfl
            case hc =>
              apply ex_X8_isSheet
              refine rn_step rfl ?_
              refine rb_iload rfl ?_
              refine rb_push ?_
              refine rb_push ?_
              apply rb_callS3
              case hcl => exact rfl
              case hc =>
                apply ex_X8_within
                refine rn_step rfl ?_
                refine rb_iload rfl ?_
                refine rb_iload rfl ?_
                refine rb_clt (fun h => absurd h (ia_nlt hla (by decide))) (fun _ => ?_)
                refine rb_iload rfl ?_
                refine rb_iload rfl ?_
                refine rb_cgt (fun h => absurd h (ia_ngt hha (by decide))) (fun _ => ?_)
                refine rb_push ?_
                refine rb_goto ?_
                refine rn_step rfl ?_
                refine rb_ret rfl rfl
              refine rb_ret rfl rfl
            refine rb_ieq (fun h => absurd h (by decide)) (fun _ => ?_)
            refine rb_iload rfl ?_
            apply rb_callS1
            case hcl => exact rfl
            case hc =>
              apply ex_X8_isSheet
              refine rn_step rfl ?_
              refine rb_iload rfl ?_
              refine rb_push ?_
              refine rb_push ?_
              apply rb_callS3
              case hcl => exact rfl
              case hc =>
                apply ex_X8_within
                refine rn_step rfl ?_
                refine rb_iload rfl ?_
                refine rb_iload rfl ?_
                refine rb_clt (fun h => absurd h (ia_nlt hlc (by decide))) (fun _ => ?_)
                refine rb_iload rfl ?_
                refine rb_iload rfl ?_
                refine rb_cgt (fun _ => ?_) (fun h => absurd (ia_gt hlc (by decide)) h)
                refine rn_step rfl ?_
                refine rb_push ?_
                refine rb_goto ?_
                refine rn_step rfl ?_
                refine rb_ret rfl rfl
              refine rb_ret rfl rfl
            refine rb_ine (fun h => absurd (by decide) h) (fun _ => ?_)
            refine rb_goto ?_
            refine rn_step rfl ?_
            refine rb_push ?_
            refine rb_ret rfl rfl
          case h2 =>
            apply ex_X9_copy
            refine rn_step rfl ?_
            refine rb_iload rfl ?_
            apply rb_callS1
            case hcl => exact rfl
            case hc =>
              apply ex_X9_isSheet
              refine rn_step rfl ?_
              refine rb_iload rfl ?_
              refine rb_push ?_
              refine rb_push ?_
              apply rb_callS3
              case hcl => exact rfl
              case hc =>
                apply ex_X9_in
                refine rn_step rfl ?_
                refine rb_iload rfl ?_
                refine rb_iload rfl ?_
                refine rb_clt (fun h => absurd h (ia_nlt hla (by decide))) (fun _ => ?_)
                refine rb_iload rfl ?_
                refine rb_iload rfl ?_
                refine rb_cgt (fun h => absurd h (ia_ngt hha (by decide))) (fun _ => ?_)
                refine rb_push ?_
                refine rb_goto ?_
                refine rn_step rfl ?_
                refine rb_ret rfl rfl
              refine rb_ret rfl rfl
            refine rb_ieq (fun h => absurd h (by decide)) (fun _ => ?_)
            refine rb_iload rfl ?_
            apply rb_callS1
            case hcl => exact rfl
            case hc =>
              apply ex_X9_isSheet
              refine rn_step rfl ?_
              refine rb_iload rfl ?_
              refine rb_push ?_
              refine rb_push ?_
              apply rb_callS3
              case hcl => exact rfl
              case hc =>
                apply ex_X9_in
                refine rn_step rfl ?_
                refine rb_iload rfl ?_
                refine rb_iload rfl ?_
                refine rb_clt (fun h => absurd h (ia_nlt hlc (by decide))) (fun _ => ?_)
                refine rb_iload rfl ?_
                refine rb_iload rfl ?_
                refine rb_cgt (fun _ => ?_) (fun h => absurd (ia_gt hlc (by decide)) h)
                refine rn_step rfl ?_
                refine rb_push ?_
                refine rb_goto ?_
                refine rn_step rfl ?_
                refine rb_ret rfl rfl
              refine rb_ret rfl rfl
            refine rb_ine (fun h => absurd (by decide) h) (fun _ => ?_)
            refine rb_goto ?_
            refine rn_step rfl ?_
            refine rb_push ?_
            refine rb_ret rfl rfl
          case h3 => exact s1_ok
          case h4 => exact rfl
    ·
      apply p1_intro (v := (-1000000001))
      case h1 =>
        apply ex_X8_copy
        refine rn_step rfl ?_
        refine rb_iload rfl ?_
        apply rb_callS1
        case hcl => exact rfl
        case hc =>
          apply ex_X8_isSheet
          refine rn_step rfl ?_
          refine rb_iload rfl ?_
          refine rb_push ?_
          refine rb_push ?_
          apply rb_callS3
          case hcl => exact rfl
          case hc =>
            apply ex_X8_within
            refine rn_step rfl ?_
            refine rb_iload rfl ?_
            refine rb_iload rfl ?_
            refine rb_clt (fun h => absurd h (ia_nlt hla (by decide))) (fun _ => ?_)
            refine rb_iload rfl ?_
            refine rb_iload rfl ?_
            refine rb_cgt (fun _ => ?_) (fun h => absurd (ia_gt hla (by decide)) h)
            refine rn_step rfl ?_
            refine rb_push ?_
            refine rb_goto ?_
            refine rn_step rfl ?_
            refine rb_ret rfl rfl
          refine rb_ret rfl rfl
        refine rb_ieq (fun _ => ?_) (fun h => absurd (by decide) h)
        refine rn_step rfl ?_
        refine rb_push ?_
        refine rb_ret rfl rfl
      case h2 =>
        apply ex_X9_copy
        refine rn_step rfl ?_
        refine rb_iload rfl ?_
        apply rb_callS1
        case hcl => exact rfl
        case hc =>
          apply ex_X9_isSheet
          refine rn_step rfl ?_
          refine rb_iload rfl ?_
          refine rb_push ?_
          refine rb_push ?_
          apply rb_callS3
          case hcl => exact rfl
          case hc =>
            apply ex_X9_in
            refine rn_step rfl ?_
            refine rb_iload rfl ?_
            refine rb_iload rfl ?_
            refine rb_clt (fun h => absurd h (ia_nlt hla (by decide))) (fun _ => ?_)
            refine rb_iload rfl ?_
            refine rb_iload rfl ?_
            refine rb_cgt (fun _ => ?_) (fun h => absurd (ia_gt hla (by decide)) h)
            refine rn_step rfl ?_
            refine rb_push ?_
            refine rb_goto ?_
            refine rn_step rfl ?_
            refine rb_ret rfl rfl
          refine rb_ret rfl rfl
        refine rb_ieq (fun _ => ?_) (fun h => absurd (by decide) h)
        refine rn_step rfl ?_
        refine rb_push ?_
        refine rb_ret rfl rfl
      case h3 => exact s1_ok
      case h4 => exact rfl
