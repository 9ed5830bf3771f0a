set_option maxRecDepth 1000000 in
theorem bx_lay_47 : ∀ n0 : Nat, n0 < 5 → ∀ n2 : Nat, n2 < 4 → ck 110 213 [.int (Int32.ofInt (0 + (n0 : Int))), .int 2, .int (Int32.ofInt (0 + (n2 : Int)))] = true := by decide +kernel
set_option maxRecDepth 1000000 in
set_option maxHeartbeats 40000000 in
theorem p1_lay (a b c : Int32) : P1 110 213 [.int a, .int b, .int c] := by
  have hla : -2147483648 ≤ a.toInt := ia_lo a
  have hha : a.toInt ≤ 2147483647 := ia_hi a
  have hlb : -2147483648 ≤ b.toInt := ia_lo b
  have hhb : b.toInt ≤ 2147483647 := ia_hi b
  have hlc : -2147483648 ≤ c.toInt := ia_lo c
  have hhc : c.toInt ≤ 2147483647 := ia_hi c
  rcases ia_cut (c := 0) hla hha with ⟨hla, hha⟩ | ⟨hla, hha⟩
  ·
    apply p1_intro (v := (-1000000001))
    case h1 =>
      apply ex_X8_lay
      refine rn_step rfl ?_
      refine rb_iload rfl ?_
      apply rb_callS1
      case hcl => exact rfl
      case hc =>
        apply ex_X8_isSlot
        refine rn_step rfl ?_
        refine rb_iload rfl ?_
        refine rb_push ?_
        refine rb_push ?_
        apply rb_callS3
        case hcl => exact rfl
        case hc =>
          apply ex_X8_within
          refine rn_step rfl ?_
          refine rb_iload rfl ?_
          refine rb_iload rfl ?_
          refine rb_clt (fun _ => ?_) (fun h => absurd (ia_lt hha (by decide)) h)
          refine rn_step rfl ?_
          refine rb_push ?_
          refine rb_goto ?_
          refine rn_step rfl ?_
          refine rb_ret rfl rfl
        refine rb_ret rfl rfl
      refine rb_ieq (fun _ => ?_) (fun h => absurd (by decide) h)
      refine rn_step rfl ?_
      refine rb_push ?_
      refine rb_ret rfl rfl
    case h2 =>
      apply ex_X9_lay
      refine rn_step rfl ?_
      refine rb_iload rfl ?_
      apply rb_callS1
      case hcl => exact rfl
      case hc =>
        apply ex_X9_isSlot
        refine rn_step rfl ?_
        refine rb_iload rfl ?_
        refine rb_push ?_
        refine rb_push ?_
        apply rb_callS3
        case hcl => exact rfl
        case hc =>
          apply ex_X9_in
          refine rn_step rfl ?_
          refine rb_iload rfl ?_
          refine rb_iload rfl ?_
          refine rb_clt (fun _ => ?_) (fun h => absurd (ia_lt hha (by decide)) h)
          refine rn_step rfl ?_
          refine rb_push ?_
          refine rb_goto ?_
          refine rn_step rfl ?_
          refine rb_ret rfl rfl
        refine rb_ret rfl rfl
      refine rb_ieq (fun _ => ?_) (fun h => absurd (by decide) h)
      refine rn_step rfl ?_
      refine rb_push ?_
      refine rb_ret rfl rfl
    case h3 => exact s1_ok
    case h4 => exact rfl
  ·
    rcases ia_cut (c := 5) hla hha with ⟨hla, hha⟩ | ⟨hla, hha⟩
    ·
      rcases ia_cut (c := 0) hlb hhb with ⟨hlb, hhb⟩ | ⟨hlb, hhb⟩
      ·
        apply p1_intro (v := (-1000000001))
        case h1 =>
          apply ex_X8_lay
          refine rn_step rfl ?_
          refine rb_iload rfl ?_
          apply rb_callS1
          case hcl => exact rfl
          case hc =>
            apply ex_X8_isSlot
            refine rn_step rfl ?_
            refine rb_iload rfl ?_
            refine rb_push ?_
            refine rb_push ?_
            apply rb_callS3
            case hcl => exact rfl
            case hc =>
              apply ex_X8_within
              refine rn_step rfl ?_
              refine rb_iload rfl ?_
              refine rb_iload rfl ?_
              refine rb_clt (fun h => absurd h (ia_nlt hla (by decide))) (fun _ => ?_)
              refine rb_iload rfl ?_
              refine rb_iload rfl ?_
              refine rb_cgt (fun h => absurd h (ia_ngt hha (by decide))) (fun _ => ?_)
              refine rb_push ?_
              refine rb_goto ?_
              refine rn_step rfl ?_
              refine rb_ret rfl rfl
            refine rb_ret rfl rfl
          refine rb_ieq (fun h => absurd h (by decide)) (fun _ => ?_)
          refine rb_iload rfl ?_
          refine rb_push ?_
          refine rb_push ?_
          apply rb_callS3
          case hcl => exact rfl
          case hc =>
            apply ex_X8_within
            refine rn_step rfl ?_
            refine rb_iload rfl ?_
            refine rb_iload rfl ?_
            refine rb_clt (fun _ => ?_) (fun h => absurd (ia_lt hhb (by decide)) h)
            refine rn_step rfl ?_
            refine rb_push ?_
            refine rb_goto ?_
            refine rn_step rfl ?_
            refine rb_ret rfl rfl
          refine rb_ine (fun h => absurd (by decide) h) (fun _ => ?_)
          refine rb_goto ?_
          refine rn_step rfl ?_
          refine rb_push ?_
          refine rb_ret rfl rfl
        case h2 =>
          apply ex_X9_lay
          refine rn_step rfl ?_
          refine rb_iload rfl ?_
          apply rb_callS1
          case hcl => exact rfl
          case hc =>
            apply ex_X9_isSlot
            refine rn_step rfl ?_
            refine rb_iload rfl ?_
            refine rb_push ?_
            refine rb_push ?_
            apply rb_callS3
            case hcl => exact rfl
            case hc =>
              apply ex_X9_in
              refine rn_step rfl ?_
              refine rb_iload rfl ?_
              refine rb_iload rfl ?_
              refine rb_clt (fun h => absurd h (ia_nlt hla (by decide))) (fun _ => ?_)
              refine rb_iload rfl ?_
              refine rb_iload rfl ?_
              refine rb_cgt (fun h => absurd h (ia_ngt hha (by decide))) (fun _ => ?_)
              refine rb_push ?_
              refine rb_goto ?_
              refine rn_step rfl ?_
              refine rb_ret rfl rfl
            refine rb_ret rfl rfl
          refine rb_ieq (fun h => absurd h (by decide)) (fun _ => ?_)
          refine rb_iload rfl ?_
          refine rb_push ?_
          refine rb_push ?_
          apply rb_callS3
          case hcl => exact rfl
          case hc =>
            apply ex_X9_in
            refine rn_step rfl ?_
            refine rb_iload rfl ?_
            refine rb_iload rfl ?_
            refine rb_clt (fun _ => ?_) (fun h => absurd (ia_lt hhb (by decide)) h)
            refine rn_step rfl ?_
            refine rb_push ?_
            refine rb_goto ?_
            refine rn_step rfl ?_
            refine rb_ret rfl rfl
          refine rb_ieq (fun _ => ?_) (fun h => absurd (by decide) h)
          refine rn_step rfl ?_
          refine rb_push ?_
          refine rb_ret rfl rfl
        case h3 => exact s1_ok
        case h4 => exact rfl
      ·
        rcases ia_cut (c := 4) hlb hhb with ⟨hlb, hhb⟩ | ⟨hlb, hhb⟩
        ·
          rcases ia_cut (c := 1) hlb hhb with ⟨hlb, hhb⟩ | ⟨hlb, hhb⟩
          ·
            obtain rfl : b = 0 := ia_one hlb hhb (by decide) (by decide)
            rcases ia_cut (c := 1) hla hha with ⟨hla, hha⟩ | ⟨hla, hha⟩
            ·
              obtain rfl : a = 0 := ia_one hla hha (by decide) (by decide)
              apply p1_intro (v := 0)
              case h1 =>
                apply ex_X8_lay
                refine rn_step rfl ?_
                refine rb_iload rfl ?_
                apply rb_callS1
                case hcl => exact rfl
                case hc =>
                  apply ex_X8_isSlot
                  refine rn_step rfl ?_
                  refine rb_iload rfl ?_
                  refine rb_push ?_
                  refine rb_push ?_
                  apply rb_callS3
                  case hcl => exact rfl
                  case hc =>
                    apply ex_X8_within
                    refine rn_step rfl ?_
                    refine rb_iload rfl ?_
                    refine rb_iload rfl ?_
                    refine rb_clt (fun h => absurd h (by decide)) (fun _ => ?_)
                    refine rb_iload rfl ?_
                    refine rb_iload rfl ?_
                    refine rb_cgt (fun h => absurd h (by decide)) (fun _ => ?_)
                    refine rb_push ?_
                    refine rb_goto ?_
                    refine rn_step rfl ?_
                    refine rb_ret rfl rfl
                  refine rb_ret rfl rfl
                refine rb_ieq (fun h => absurd h (by decide)) (fun _ => ?_)
                refine rb_iload rfl ?_
                refine rb_push ?_
                refine rb_push ?_
                apply rb_callS3
                case hcl => exact rfl
                case hc =>
                  apply ex_X8_within
                  refine rn_step rfl ?_
                  refine rb_iload rfl ?_
                  refine rb_iload rfl ?_
                  refine rb_clt (fun h => absurd h (by decide)) (fun _ => ?_)
                  refine rb_iload rfl ?_
                  refine rb_iload rfl ?_
                  refine rb_cgt (fun h => absurd h (by decide)) (fun _ => ?_)
                  refine rb_push ?_
                  refine rb_goto ?_
                  refine rn_step rfl ?_
                  refine rb_ret rfl rfl
                refine rb_ine (fun _ => ?_) (fun h => absurd (by decide) h)
                refine rn_step rfl ?_
                refine rb_iload rfl ?_
                refine rb_push ?_
                refine rb_cne (fun _ => ?_) (fun h => absurd (by decide) h)
                refine rn_step rfl ?_
                refine rb_iload rfl ?_
                refine rb_push ?_
                refine rb_cne (fun _ => ?_) (fun h => absurd (by decide) h)
                refine rn_step rfl ?_
                refine rb_iload rfl ?_
                refine rb_push ?_
                refine rb_cne (fun _ => ?_) (fun h => absurd (by decide) h)
                refine rn_step rfl ?_
                refine rb_aload rfl ?_
                refine rb_getf (v := .ref 43) rfl ?_
                refine rb_iload rfl ?_
                refine rb_aaldR rfl (by decide) rfl ?_
                refine rb_astore (lv' := [some (.ref 0), some (.int 0), some (.int 0), some (.int (c)), some (.ref 53), none]) rfl ?_
                refine rb_aload rfl ?_
                refine rb_getf (v := .int 0) rfl ?_
                refine rb_istore (lv' := [some (.ref 0), some (.int 0), some (.int 0), some (.int (c)), some (.ref 53), some (.int 0)]) rfl ?_
                refine rb_aload rfl ?_
                refine rb_iload rfl ?_
                refine rb_putI (pf_53_1 _ _) ?_
                refine rb_iload rfl ?_
                refine rb_push ?_
                refine rb_cne (fun _ => ?_) (fun h => absurd (by decide) h)
                refine rn_step rfl ?_
                refine rb_iload rfl ?_
                refine rb_push ?_
                refine rb_cne (fun _ => ?_) (fun h => absurd (by decide) h)
                refine rn_step rfl ?_
                refine rb_iload rfl ?_
                refine rb_push ?_
                refine rb_cne (fun _ => ?_) (fun h => absurd (by decide) h)
                refine rn_step rfl ?_
                refine rb_iload rfl ?_
                refine rb_ret rfl rfl
              case h2 =>
                apply ex_X9_lay
                refine rn_step rfl ?_
                refine rb_iload rfl ?_
                apply rb_callS1
                case hcl => exact rfl
                case hc =>
                  apply ex_X9_isSlot
                  refine rn_step rfl ?_
                  refine rb_iload rfl ?_
                  refine rb_push ?_
                  refine rb_push ?_
                  apply rb_callS3
                  case hcl => exact rfl
                  case hc =>
                    apply ex_X9_in
                    refine rn_step rfl ?_
                    refine rb_iload rfl ?_
                    refine rb_iload rfl ?_
                    refine rb_clt (fun h => absurd h (by decide)) (fun _ => ?_)
                    refine rb_iload rfl ?_
                    refine rb_iload rfl ?_
                    refine rb_cgt (fun h => absurd h (by decide)) (fun _ => ?_)
                    refine rb_push ?_
                    refine rb_goto ?_
                    refine rn_step rfl ?_
                    refine rb_ret rfl rfl
                  refine rb_ret rfl rfl
                refine rb_ieq (fun h => absurd h (by decide)) (fun _ => ?_)
                refine rb_iload rfl ?_
                refine rb_push ?_
                refine rb_push ?_
                apply rb_callS3
                case hcl => exact rfl
                case hc =>
                  apply ex_X9_in
                  refine rn_step rfl ?_
                  refine rb_iload rfl ?_
                  refine rb_iload rfl ?_
                  refine rb_clt (fun h => absurd h (by decide)) (fun _ => ?_)
                  refine rb_iload rfl ?_
                  refine rb_iload rfl ?_
                  refine rb_cgt (fun h => absurd h (by decide)) (fun _ => ?_)
                  refine rb_push ?_
                  refine rb_goto ?_
                  refine rn_step rfl ?_
                  refine rb_ret rfl rfl
                refine rb_ieq (fun h => absurd h (by decide)) (fun _ => ?_)
                refine rb_iload rfl ?_
                refine rb_push ?_
                refine rb_cne (fun _ => ?_) (fun h => absurd (by decide) h)
                refine rn_step rfl ?_
                refine rb_iload rfl ?_
                refine rb_push ?_
                refine rb_cne (fun _ => ?_) (fun h => absurd (by decide) h)
                refine rn_step rfl ?_
                refine rb_iload rfl ?_
                refine rb_push ?_
                refine rb_cne (fun _ => ?_) (fun h => absurd (by decide) h)
                refine rn_step rfl ?_
                refine rb_aload rfl ?_
                refine rb_getf (v := .ref 86) rfl ?_
                refine rb_iload rfl ?_
                refine rb_iald rfl (by decide) (show _ = some (0) from rfl) ?_
                refine rb_istore (lv' := [some (.ref 68), some (.int 0), some (.int 0), some (.int (c)), some (.int 0), none]) rfl ?_
                refine rb_aload rfl ?_
                refine rb_getf (v := .ref 86) rfl ?_
                refine rb_iload rfl ?_
                refine rb_iload rfl ?_
                refine rb_iastL (xs' := List.replicate 5 0) rfl (by decide) (ok_lt (okL.sI s1_ok _ _ _) (c := 86) (n := 5) (by decide) rfl (by decide) (by decide)) rfl (wa_86 _ _) ?_
                refine rb_aload rfl ?_
                refine rb_getf (v := .ref 87) rfl ?_
                refine rb_iload rfl ?_
                refine rb_iload rfl ?_
                refine rb_push ?_
                refine rb_cne (fun _ => ?_) (fun h => absurd (by decide) h)
                refine rn_step rfl ?_
                refine rb_iload rfl ?_
                refine rb_push ?_
                refine rb_cne (fun _ => ?_) (fun h => absurd (by decide) h)
                refine rn_step rfl ?_
                refine rb_iload rfl ?_
                refine rb_goto ?_
                refine rn_step rfl ?_
                refine rb_iastL (xs' := [c] ++ List.replicate 4 0) rfl (by decide) (ok_lt (okA (okL.sI s1_ok _ _ _) (c := 86) (n := 5) (by decide) rfl (by decide) rfl) (c := 87) (n := 5) (by decide) rfl (by decide) (by decide)) rfl (wa_87 _ _) ?_
                refine rb_aload rfl ?_
                refine rb_getf (v := .ref 88) rfl ?_
                refine rb_iload rfl ?_
                refine rb_iload rfl ?_
                refine rb_push ?_
                refine rb_cne (fun _ => ?_) (fun h => absurd (by decide) h)
                refine rn_step rfl ?_
                refine rb_push ?_
                refine rb_goto ?_
                refine rn_step rfl ?_
                refine rb_iastL (xs' := List.replicate 5 0) rfl (by decide) (ok_lt (okA (okA (okL.sI s1_ok _ _ _) (c := 86) (n := 5) (by decide) rfl (by decide) rfl) (c := 87) (n := 5) (by decide) rfl (by decide) rfl) (c := 88) (n := 5) (by decide) rfl (by decide) (by decide)) rfl (wa_88 _ _) ?_
                refine rb_push ?_
                refine rb_istore (lv' := [some (.ref 68), some (.int 0), some (.int 0), some (.int (c)), some (.int 0), some (.int 0)]) rfl ?_
                refine rb_goto ?_
                refine rn_step rfl ?_
                refine rb_iload rfl ?_
                refine rb_push ?_
                refine rb_cge (fun h => absurd h (by decide)) (fun _ => ?_)
                refine rb_iload rfl ?_
                refine rb_push ?_
                refine rb_cne (fun _ => ?_) (fun h => absurd (by decide) h)
                refine rn_step rfl ?_
                refine rb_iload rfl ?_
                refine rb_ret rfl rfl
              case h3 => exact (okA (okA (okA (okL.sI s1_ok _ _ _) (c := 86) (n := 5) (by decide) rfl (by decide) rfl) (c := 87) (n := 5) (by decide) rfl (by decide) rfl) (c := 88) (n := 5) (by decide) rfl (by decide) rfl)
              case h4 => exact rfl
            ·
              rcases ia_cut (c := 2) hla hha with ⟨hla, hha⟩ | ⟨hla, hha⟩
              ·
                obtain rfl : a = 1 := ia_one hla hha (by decide) (by decide)
                apply p1_intro (v := 0)
                case h1 =>
                  apply ex_X8_lay
                  refine rn_step rfl ?_
                  refine rb_iload rfl ?_
                  apply rb_callS1
                  case hcl => exact rfl
                  case hc =>
                    apply ex_X8_isSlot
                    refine rn_step rfl ?_
                    refine rb_iload rfl ?_
                    refine rb_push ?_
                    refine rb_push ?_
                    apply rb_callS3
                    case hcl => exact rfl
                    case hc =>
                      apply ex_X8_within
                      refine rn_step rfl ?_
                      refine rb_iload rfl ?_
                      refine rb_iload rfl ?_
                      refine rb_clt (fun h => absurd h (by decide)) (fun _ => ?_)
                      refine rb_iload rfl ?_
                      refine rb_iload rfl ?_
                      refine rb_cgt (fun h => absurd h (by decide)) (fun _ => ?_)
                      refine rb_push ?_
                      refine rb_goto ?_
                      refine rn_step rfl ?_
                      refine rb_ret rfl rfl
                    refine rb_ret rfl rfl
                  refine rb_ieq (fun h => absurd h (by decide)) (fun _ => ?_)
                  refine rb_iload rfl ?_
                  refine rb_push ?_
                  refine rb_push ?_
                  apply rb_callS3
                  case hcl => exact rfl
                  case hc =>
                    apply ex_X8_within
                    refine rn_step rfl ?_
                    refine rb_iload rfl ?_
                    refine rb_iload rfl ?_
                    refine rb_clt (fun h => absurd h (by decide)) (fun _ => ?_)
                    refine rb_iload rfl ?_
                    refine rb_iload rfl ?_
                    refine rb_cgt (fun h => absurd h (by decide)) (fun _ => ?_)
                    refine rb_push ?_
                    refine rb_goto ?_
                    refine rn_step rfl ?_
                    refine rb_ret rfl rfl
                  refine rb_ine (fun _ => ?_) (fun h => absurd (by decide) h)
                  refine rn_step rfl ?_
                  refine rb_iload rfl ?_
                  refine rb_push ?_
                  refine rb_cne (fun _ => ?_) (fun h => absurd (by decide) h)
                  refine rn_step rfl ?_
                  refine rb_iload rfl ?_
                  refine rb_push ?_
                  refine rb_cne (fun _ => ?_) (fun h => absurd (by decide) h)
                  refine rn_step rfl ?_
                  refine rb_iload rfl ?_
                  refine rb_push ?_
                  refine rb_cne (fun _ => ?_) (fun h => absurd (by decide) h)
                  refine rn_step rfl ?_
                  refine rb_aload rfl ?_
                  refine rb_getf (v := .ref 43) rfl ?_
                  refine rb_iload rfl ?_
                  refine rb_aaldR rfl (by decide) rfl ?_
                  refine rb_astore (lv' := [some (.ref 0), some (.int 1), some (.int 0), some (.int (c)), some (.ref 56), none]) rfl ?_
                  refine rb_aload rfl ?_
                  refine rb_getf (v := .int 0) rfl ?_
                  refine rb_istore (lv' := [some (.ref 0), some (.int 1), some (.int 0), some (.int (c)), some (.ref 56), some (.int 0)]) rfl ?_
                  refine rb_aload rfl ?_
                  refine rb_iload rfl ?_
                  refine rb_putI (pf_56_1 _ _) ?_
                  refine rb_iload rfl ?_
                  refine rb_push ?_
                  refine rb_cne (fun _ => ?_) (fun h => absurd (by decide) h)
                  refine rn_step rfl ?_
                  refine rb_iload rfl ?_
                  refine rb_push ?_
                  refine rb_cne (fun _ => ?_) (fun h => absurd (by decide) h)
                  refine rn_step rfl ?_
                  refine rb_iload rfl ?_
                  refine rb_push ?_
                  refine rb_cne (fun _ => ?_) (fun h => absurd (by decide) h)
                  refine rn_step rfl ?_
                  refine rb_iload rfl ?_
                  refine rb_ret rfl rfl
                case h2 =>
                  apply ex_X9_lay
                  refine rn_step rfl ?_
                  refine rb_iload rfl ?_
                  apply rb_callS1
                  case hcl => exact rfl
                  case hc =>
                    apply ex_X9_isSlot
                    refine rn_step rfl ?_
                    refine rb_iload rfl ?_
                    refine rb_push ?_
                    refine rb_push ?_
                    apply rb_callS3
                    case hcl => exact rfl
                    case hc =>
                      apply ex_X9_in
                      refine rn_step rfl ?_
                      refine rb_iload rfl ?_
                      refine rb_iload rfl ?_
                      refine rb_clt (fun h => absurd h (by decide)) (fun _ => ?_)
                      refine rb_iload rfl ?_
                      refine rb_iload rfl ?_
                      refine rb_cgt (fun h => absurd h (by decide)) (fun _ => ?_)
                      refine rb_push ?_
                      refine rb_goto ?_
                      refine rn_step rfl ?_
                      refine rb_ret rfl rfl
                    refine rb_ret rfl rfl
                  refine rb_ieq (fun h => absurd h (by decide)) (fun _ => ?_)
                  refine rb_iload rfl ?_
                  refine rb_push ?_
                  refine rb_push ?_
                  apply rb_callS3
                  case hcl => exact rfl
                  case hc =>
                    apply ex_X9_in
                    refine rn_step rfl ?_
                    refine rb_iload rfl ?_
                    refine rb_iload rfl ?_
                    refine rb_clt (fun h => absurd h (by decide)) (fun _ => ?_)
                    refine rb_iload rfl ?_
                    refine rb_iload rfl ?_
                    refine rb_cgt (fun h => absurd h (by decide)) (fun _ => ?_)
                    refine rb_push ?_
                    refine rb_goto ?_
                    refine rn_step rfl ?_
                    refine rb_ret rfl rfl
                  refine rb_ieq (fun h => absurd h (by decide)) (fun _ => ?_)
                  refine rb_iload rfl ?_
                  refine rb_push ?_
                  refine rb_cne (fun _ => ?_) (fun h => absurd (by decide) h)
                  refine rn_step rfl ?_
                  refine rb_iload rfl ?_
                  refine rb_push ?_
                  refine rb_cne (fun _ => ?_) (fun h => absurd (by decide) h)
                  refine rn_step rfl ?_
                  refine rb_iload rfl ?_
                  refine rb_push ?_
                  refine rb_cne (fun _ => ?_) (fun h => absurd (by decide) h)
                  refine rn_step rfl ?_
                  refine rb_aload rfl ?_
                  refine rb_getf (v := .ref 86) rfl ?_
                  refine rb_iload rfl ?_
                  refine rb_iald rfl (by decide) (show _ = some (0) from rfl) ?_
                  refine rb_istore (lv' := [some (.ref 68), some (.int 1), some (.int 0), some (.int (c)), some (.int 0), none]) rfl ?_
                  refine rb_aload rfl ?_
                  refine rb_getf (v := .ref 86) rfl ?_
                  refine rb_iload rfl ?_
                  refine rb_iload rfl ?_
                  refine rb_iastL (xs' := List.replicate 5 0) rfl (by decide) (ok_lt (okL.sI s1_ok _ _ _) (c := 86) (n := 5) (by decide) rfl (by decide) (by decide)) rfl (wa_86 _ _) ?_
                  refine rb_aload rfl ?_
                  refine rb_getf (v := .ref 87) rfl ?_
                  refine rb_iload rfl ?_
                  refine rb_iload rfl ?_
                  refine rb_push ?_
                  refine rb_cne (fun _ => ?_) (fun h => absurd (by decide) h)
                  refine rn_step rfl ?_
                  refine rb_iload rfl ?_
                  refine rb_push ?_
                  refine rb_cne (fun _ => ?_) (fun h => absurd (by decide) h)
                  refine rn_step rfl ?_
                  refine rb_iload rfl ?_
                  refine rb_goto ?_
                  refine rn_step rfl ?_
                  refine rb_iastL (xs' := [0, c] ++ List.replicate 3 0) rfl (by decide) (ok_lt (okA (okL.sI s1_ok _ _ _) (c := 86) (n := 5) (by decide) rfl (by decide) rfl) (c := 87) (n := 5) (by decide) rfl (by decide) (by decide)) rfl (wa_87 _ _) ?_
                  refine rb_aload rfl ?_
                  refine rb_getf (v := .ref 88) rfl ?_
                  refine rb_iload rfl ?_
                  refine rb_iload rfl ?_
                  refine rb_push ?_
                  refine rb_cne (fun _ => ?_) (fun h => absurd (by decide) h)
                  refine rn_step rfl ?_
                  refine rb_push ?_
                  refine rb_goto ?_
                  refine rn_step rfl ?_
                  refine rb_iastL (xs' := List.replicate 5 0) rfl (by decide) (ok_lt (okA (okA (okL.sI s1_ok _ _ _) (c := 86) (n := 5) (by decide) rfl (by decide) rfl) (c := 87) (n := 5) (by decide) rfl (by decide) rfl) (c := 88) (n := 5) (by decide) rfl (by decide) (by decide)) rfl (wa_88 _ _) ?_
                  refine rb_push ?_
                  refine rb_istore (lv' := [some (.ref 68), some (.int 1), some (.int 0), some (.int (c)), some (.int 0), some (.int 0)]) rfl ?_
                  refine rb_goto ?_
                  refine rn_step rfl ?_
                  refine rb_iload rfl ?_
                  refine rb_push ?_
                  refine rb_cge (fun h => absurd h (by decide)) (fun _ => ?_)
                  refine rb_iload rfl ?_
                  refine rb_push ?_
                  refine rb_cne (fun _ => ?_) (fun h => absurd (by decide) h)
                  refine rn_step rfl ?_
                  refine rb_iload rfl ?_
                  refine rb_ret rfl rfl
                case h3 => exact (okA (okA (okA (okL.sI s1_ok _ _ _) (c := 86) (n := 5) (by decide) rfl (by decide) rfl) (c := 87) (n := 5) (by decide) rfl (by decide) rfl) (c := 88) (n := 5) (by decide) rfl (by decide) rfl)
                case h4 => exact rfl
              ·
                rcases ia_cut (c := 3) hla hha with ⟨hla, hha⟩ | ⟨hla, hha⟩
                ·
                  obtain rfl : a = 2 := ia_one hla hha (by decide) (by decide)
                  apply p1_intro (v := 0)
                  case h1 =>
                    apply ex_X8_lay
                    refine rn_step rfl ?_
                    refine rb_iload rfl ?_
                    apply rb_callS1
                    case hcl => exact rfl
                    case hc =>
                      apply ex_X8_isSlot
                      refine rn_step rfl ?_
                      refine rb_iload rfl ?_
                      refine rb_push ?_
                      refine rb_push ?_
                      apply rb_callS3
                      case hcl => exact rfl
                      case hc =>
                        apply ex_X8_within
                        refine rn_step rfl ?_
                        refine rb_iload rfl ?_
                        refine rb_iload rfl ?_
                        refine rb_clt (fun h => absurd h (by decide)) (fun _ => ?_)
                        refine rb_iload rfl ?_
                        refine rb_iload rfl ?_
                        refine rb_cgt (fun h => absurd h (by decide)) (fun _ => ?_)
                        refine rb_push ?_
                        refine rb_goto ?_
                        refine rn_step rfl ?_
                        refine rb_ret rfl rfl
                      refine rb_ret rfl rfl
                    refine rb_ieq (fun h => absurd h (by decide)) (fun _ => ?_)
                    refine rb_iload rfl ?_
                    refine rb_push ?_
                    refine rb_push ?_
                    apply rb_callS3
                    case hcl => exact rfl
                    case hc =>
                      apply ex_X8_within
                      refine rn_step rfl ?_
                      refine rb_iload rfl ?_
                      refine rb_iload rfl ?_
                      refine rb_clt (fun h => absurd h (by decide)) (fun _ => ?_)
                      refine rb_iload rfl ?_
                      refine rb_iload rfl ?_
                      refine rb_cgt (fun h => absurd h (by decide)) (fun _ => ?_)
                      refine rb_push ?_
                      refine rb_goto ?_
                      refine rn_step rfl ?_
                      refine rb_ret rfl rfl
                    refine rb_ine (fun _ => ?_) (fun h => absurd (by decide) h)
                    refine rn_step rfl ?_
                    refine rb_iload rfl ?_
                    refine rb_push ?_
                    refine rb_cne (fun _ => ?_) (fun h => absurd (by decide) h)
                    refine rn_step rfl ?_
                    refine rb_iload rfl ?_
                    refine rb_push ?_
                    refine rb_cne (fun _ => ?_) (fun h => absurd (by decide) h)
                    refine rn_step rfl ?_
                    refine rb_iload rfl ?_
                    refine rb_push ?_
                    refine rb_cne (fun _ => ?_) (fun h => absurd (by decide) h)
                    refine rn_step rfl ?_
                    refine rb_aload rfl ?_
                    refine rb_getf (v := .ref 43) rfl ?_
                    refine rb_iload rfl ?_
                    refine rb_aaldR rfl (by decide) rfl ?_
                    refine rb_astore (lv' := [some (.ref 0), some (.int 2), some (.int 0), some (.int (c)), some (.ref 59), none]) rfl ?_
                    refine rb_aload rfl ?_
                    refine rb_getf (v := .int 0) rfl ?_
                    refine rb_istore (lv' := [some (.ref 0), some (.int 2), some (.int 0), some (.int (c)), some (.ref 59), some (.int 0)]) rfl ?_
                    refine rb_aload rfl ?_
                    refine rb_iload rfl ?_
                    refine rb_putI (pf_59_1 _ _) ?_
                    refine rb_iload rfl ?_
                    refine rb_push ?_
                    refine rb_cne (fun _ => ?_) (fun h => absurd (by decide) h)
                    refine rn_step rfl ?_
                    refine rb_iload rfl ?_
                    refine rb_push ?_
                    refine rb_cne (fun _ => ?_) (fun h => absurd (by decide) h)
                    refine rn_step rfl ?_
                    refine rb_iload rfl ?_
                    refine rb_push ?_
                    refine rb_cne (fun _ => ?_) (fun h => absurd (by decide) h)
                    refine rn_step rfl ?_
                    refine rb_iload rfl ?_
                    refine rb_ret rfl rfl
                  case h2 =>
                    apply ex_X9_lay
                    refine rn_step rfl ?_
                    refine rb_iload rfl ?_
                    apply rb_callS1
                    case hcl => exact rfl
                    case hc =>
                      apply ex_X9_isSlot
                      refine rn_step rfl ?_
                      refine rb_iload rfl ?_
                      refine rb_push ?_
                      refine rb_push ?_
                      apply rb_callS3
                      case hcl => exact rfl
                      case hc =>
                        apply ex_X9_in
                        refine rn_step rfl ?_
                        refine rb_iload rfl ?_
                        refine rb_iload rfl ?_
                        refine rb_clt (fun h => absurd h (by decide)) (fun _ => ?_)
                        refine rb_iload rfl ?_
                        refine rb_iload rfl ?_
                        refine rb_cgt (fun h => absurd h (by decide)) (fun _ => ?_)
                        refine rb_push ?_
                        refine rb_goto ?_
                        refine rn_step rfl ?_
                        refine rb_ret rfl rfl
                      refine rb_ret rfl rfl
                    refine rb_ieq (fun h => absurd h (by decide)) (fun _ => ?_)
                    refine rb_iload rfl ?_
                    refine rb_push ?_
                    refine rb_push ?_
                    apply rb_callS3
                    case hcl => exact rfl
                    case hc =>
                      apply ex_X9_in
                      refine rn_step rfl ?_
                      refine rb_iload rfl ?_
                      refine rb_iload rfl ?_
                      refine rb_clt (fun h => absurd h (by decide)) (fun _ => ?_)
                      refine rb_iload rfl ?_
                      refine rb_iload rfl ?_
                      refine rb_cgt (fun h => absurd h (by decide)) (fun _ => ?_)
                      refine rb_push ?_
                      refine rb_goto ?_
                      refine rn_step rfl ?_
                      refine rb_ret rfl rfl
                    refine rb_ieq (fun h => absurd h (by decide)) (fun _ => ?_)
                    refine rb_iload rfl ?_
                    refine rb_push ?_
                    refine rb_cne (fun _ => ?_) (fun h => absurd (by decide) h)
                    refine rn_step rfl ?_
                    refine rb_iload rfl ?_
                    refine rb_push ?_
                    refine rb_cne (fun _ => ?_) (fun h => absurd (by decide) h)
                    refine rn_step rfl ?_
                    refine rb_iload rfl ?_
                    refine rb_push ?_
                    refine rb_cne (fun _ => ?_) (fun h => absurd (by decide) h)
                    refine rn_step rfl ?_
                    refine rb_aload rfl ?_
                    refine rb_getf (v := .ref 86) rfl ?_
                    refine rb_iload rfl ?_
                    refine rb_iald rfl (by decide) (show _ = some (0) from rfl) ?_
                    refine rb_istore (lv' := [some (.ref 68), some (.int 2), some (.int 0), some (.int (c)), some (.int 0), none]) rfl ?_
                    refine rb_aload rfl ?_
                    refine rb_getf (v := .ref 86) rfl ?_
                    refine rb_iload rfl ?_
                    refine rb_iload rfl ?_
                    refine rb_iastL (xs' := List.replicate 5 0) rfl (by decide) (ok_lt (okL.sI s1_ok _ _ _) (c := 86) (n := 5) (by decide) rfl (by decide) (by decide)) rfl (wa_86 _ _) ?_
                    refine rb_aload rfl ?_
                    refine rb_getf (v := .ref 87) rfl ?_
                    refine rb_iload rfl ?_
                    refine rb_iload rfl ?_
                    refine rb_push ?_
                    refine rb_cne (fun _ => ?_) (fun h => absurd (by decide) h)
                    refine rn_step rfl ?_
                    refine rb_iload rfl ?_
                    refine rb_push ?_
                    refine rb_cne (fun _ => ?_) (fun h => absurd (by decide) h)
                    refine rn_step rfl ?_
                    refine rb_iload rfl ?_
                    refine rb_goto ?_
                    refine rn_step rfl ?_
                    refine rb_iastL (xs' := [0, 0, c] ++ List.replicate 2 0) rfl (by decide) (ok_lt (okA (okL.sI s1_ok _ _ _) (c := 86) (n := 5) (by decide) rfl (by decide) rfl) (c := 87) (n := 5) (by decide) rfl (by decide) (by decide)) rfl (wa_87 _ _) ?_
                    refine rb_aload rfl ?_
                    refine rb_getf (v := .ref 88) rfl ?_
                    refine rb_iload rfl ?_
                    refine rb_iload rfl ?_
                    refine rb_push ?_
                    refine rb_cne (fun _ => ?_) (fun h => absurd (by decide) h)
                    refine rn_step rfl ?_
                    refine rb_push ?_
                    refine rb_goto ?_
                    refine rn_step rfl ?_
                    refine rb_iastL (xs' := List.replicate 5 0) rfl (by decide) (ok_lt (okA (okA (okL.sI s1_ok _ _ _) (c := 86) (n := 5) (by decide) rfl (by decide) rfl) (c := 87) (n := 5) (by decide) rfl (by decide) rfl) (c := 88) (n := 5) (by decide) rfl (by decide) (by decide)) rfl (wa_88 _ _) ?_
                    refine rb_push ?_
                    refine rb_istore (lv' := [some (.ref 68), some (.int 2), some (.int 0), some (.int (c)), some (.int 0), some (.int 0)]) rfl ?_
                    refine rb_goto ?_
                    refine rn_step rfl ?_
                    refine rb_iload rfl ?_
                    refine rb_push ?_
                    refine rb_cge (fun h => absurd h (by decide)) (fun _ => ?_)
                    refine rb_iload rfl ?_
                    refine rb_push ?_
                    refine rb_cne (fun _ => ?_) (fun h => absurd (by decide) h)
                    refine rn_step rfl ?_
                    refine rb_iload rfl ?_
                    refine rb_ret rfl rfl
                  case h3 => exact (okA (okA (okA (okL.sI s1_ok _ _ _) (c := 86) (n := 5) (by decide) rfl (by decide) rfl) (c := 87) (n := 5) (by decide) rfl (by decide) rfl) (c := 88) (n := 5) (by decide) rfl (by decide) rfl)
                  case h4 => exact rfl
                ·
                  rcases ia_cut (c := 4) hla hha with ⟨hla, hha⟩ | ⟨hla, hha⟩
                  ·
                    obtain rfl : a = 3 := ia_one hla hha (by decide) (by decide)
                    apply p1_intro (v := 0)
                    case h1 =>
                      apply ex_X8_lay
                      refine rn_step rfl ?_
                      refine rb_iload rfl ?_
                      apply rb_callS1
                      case hcl => exact rfl
                      case hc =>
                        apply ex_X8_isSlot
                        refine rn_step rfl ?_
                        refine rb_iload rfl ?_
                        refine rb_push ?_
                        refine rb_push ?_
                        apply rb_callS3
                        case hcl => exact rfl
                        case hc =>
                          apply ex_X8_within
                          refine rn_step rfl ?_
                          refine rb_iload rfl ?_
                          refine rb_iload rfl ?_
                          refine rb_clt (fun h => absurd h (by decide)) (fun _ => ?_)
                          refine rb_iload rfl ?_
                          refine rb_iload rfl ?_
                          refine rb_cgt (fun h => absurd h (by decide)) (fun _ => ?_)
                          refine rb_push ?_
                          refine rb_goto ?_
                          refine rn_step rfl ?_
                          refine rb_ret rfl rfl
                        refine rb_ret rfl rfl
                      refine rb_ieq (fun h => absurd h (by decide)) (fun _ => ?_)
                      refine rb_iload rfl ?_
                      refine rb_push ?_
                      refine rb_push ?_
                      apply rb_callS3
                      case hcl => exact rfl
                      case hc =>
                        apply ex_X8_within
                        refine rn_step rfl ?_
                        refine rb_iload rfl ?_
                        refine rb_iload rfl ?_
                        refine rb_clt (fun h => absurd h (by decide)) (fun _ => ?_)
                        refine rb_iload rfl ?_
                        refine rb_iload rfl ?_
                        refine rb_cgt (fun h => absurd h (by decide)) (fun _ => ?_)
                        refine rb_push ?_
                        refine rb_goto ?_
                        refine rn_step rfl ?_
                        refine rb_ret rfl rfl
                      refine rb_ine (fun _ => ?_) (fun h => absurd (by decide) h)
                      refine rn_step rfl ?_
                      refine rb_iload rfl ?_
                      refine rb_push ?_
                      refine rb_cne (fun _ => ?_) (fun h => absurd (by decide) h)
                      refine rn_step rfl ?_
                      refine rb_iload rfl ?_
                      refine rb_push ?_
                      refine rb_cne (fun _ => ?_) (fun h => absurd (by decide) h)
                      refine rn_step rfl ?_
                      refine rb_iload rfl ?_
                      refine rb_push ?_
                      refine rb_cne (fun _ => ?_) (fun h => absurd (by decide) h)
                      refine rn_step rfl ?_
                      refine rb_aload rfl ?_
                      refine rb_getf (v := .ref 43) rfl ?_
                      refine rb_iload rfl ?_
                      refine rb_aaldR rfl (by decide) rfl ?_
                      refine rb_astore (lv' := [some (.ref 0), some (.int 3), some (.int 0), some (.int (c)), some (.ref 62), none]) rfl ?_
                      refine rb_aload rfl ?_
                      refine rb_getf (v := .int 0) rfl ?_
                      refine rb_istore (lv' := [some (.ref 0), some (.int 3), some (.int 0), some (.int (c)), some (.ref 62), some (.int 0)]) rfl ?_
                      refine rb_aload rfl ?_
                      refine rb_iload rfl ?_
                      refine rb_putI (pf_62_1 _ _) ?_
                      refine rb_iload rfl ?_
                      refine rb_push ?_
                      refine rb_cne (fun _ => ?_) (fun h => absurd (by decide) h)
                      refine rn_step rfl ?_
                      refine rb_iload rfl ?_
                      refine rb_push ?_
                      refine rb_cne (fun _ => ?_) (fun h => absurd (by decide) h)
                      refine rn_step rfl ?_
                      refine rb_iload rfl ?_
                      refine rb_push ?_
                      refine rb_cne (fun _ => ?_) (fun h => absurd (by decide) h)
                      refine rn_step rfl ?_
                      refine rb_iload rfl ?_
                      refine rb_ret rfl rfl
                    case h2 =>
                      apply ex_X9_lay
                      refine rn_step rfl ?_
                      refine rb_iload rfl ?_
                      apply rb_callS1
                      case hcl => exact rfl
                      case hc =>
                        apply ex_X9_isSlot
                        refine rn_step rfl ?_
                        refine rb_iload rfl ?_
                        refine rb_push ?_
                        refine rb_push ?_
                        apply rb_callS3
                        case hcl => exact rfl
                        case hc =>
                          apply ex_X9_in
                          refine rn_step rfl ?_
                          refine rb_iload rfl ?_
                          refine rb_iload rfl ?_
                          refine rb_clt (fun h => absurd h (by decide)) (fun _ => ?_)
                          refine rb_iload rfl ?_
                          refine rb_iload rfl ?_
                          refine rb_cgt (fun h => absurd h (by decide)) (fun _ => ?_)
                          refine rb_push ?_
                          refine rb_goto ?_
                          refine rn_step rfl ?_
                          refine rb_ret rfl rfl
                        refine rb_ret rfl rfl
                      refine rb_ieq (fun h => absurd h (by decide)) (fun _ => ?_)
                      refine rb_iload rfl ?_
                      refine rb_push ?_
                      refine rb_push ?_
                      apply rb_callS3
                      case hcl => exact rfl
                      case hc =>
                        apply ex_X9_in
                        refine rn_step rfl ?_
                        refine rb_iload rfl ?_
                        refine rb_iload rfl ?_
                        refine rb_clt (fun h => absurd h (by decide)) (fun _ => ?_)
                        refine rb_iload rfl ?_
                        refine rb_iload rfl ?_
                        refine rb_cgt (fun h => absurd h (by decide)) (fun _ => ?_)
                        refine rb_push ?_
                        refine rb_goto ?_
                        refine rn_step rfl ?_
                        refine rb_ret rfl rfl
                      refine rb_ieq (fun h => absurd h (by decide)) (fun _ => ?_)
                      refine rb_iload rfl ?_
                      refine rb_push ?_
                      refine rb_cne (fun _ => ?_) (fun h => absurd (by decide) h)
                      refine rn_step rfl ?_
                      refine rb_iload rfl ?_
                      refine rb_push ?_
                      refine rb_cne (fun _ => ?_) (fun h => absurd (by decide) h)
                      refine rn_step rfl ?_
                      refine rb_iload rfl ?_
                      refine rb_push ?_
                      refine rb_cne (fun _ => ?_) (fun h => absurd (by decide) h)
                      refine rn_step rfl ?_
                      refine rb_aload rfl ?_
                      refine rb_getf (v := .ref 86) rfl ?_
                      refine rb_iload rfl ?_
                      refine rb_iald rfl (by decide) (show _ = some (0) from rfl) ?_
                      refine rb_istore (lv' := [some (.ref 68), some (.int 3), some (.int 0), some (.int (c)), some (.int 0), none]) rfl ?_
                      refine rb_aload rfl ?_
                      refine rb_getf (v := .ref 86) rfl ?_
                      refine rb_iload rfl ?_
                      refine rb_iload rfl ?_
                      refine rb_iastL (xs' := List.replicate 5 0) rfl (by decide) (ok_lt (okL.sI s1_ok _ _ _) (c := 86) (n := 5) (by decide) rfl (by decide) (by decide)) rfl (wa_86 _ _) ?_
                      refine rb_aload rfl ?_
                      refine rb_getf (v := .ref 87) rfl ?_
                      refine rb_iload rfl ?_
                      refine rb_iload rfl ?_
                      refine rb_push ?_
                      refine rb_cne (fun _ => ?_) (fun h => absurd (by decide) h)
                      refine rn_step rfl ?_
                      refine rb_iload rfl ?_
                      refine rb_push ?_
                      refine rb_cne (fun _ => ?_) (fun h => absurd (by decide) h)
                      refine rn_step rfl ?_
                      refine rb_iload rfl ?_
                      refine rb_goto ?_
                      refine rn_step rfl ?_
                      refine rb_iastL (xs' := [0, 0, 0, c] ++ List.replicate 1 0) rfl (by decide) (ok_lt (okA (okL.sI s1_ok _ _ _) (c := 86) (n := 5) (by decide) rfl (by decide) rfl) (c := 87) (n := 5) (by decide) rfl (by decide) (by decide)) rfl (wa_87 _ _) ?_
                      refine rb_aload rfl ?_
                      refine rb_getf (v := .ref 88) rfl ?_
                      refine rb_iload rfl ?_
                      refine rb_iload rfl ?_
                      refine rb_push ?_
                      refine rb_cne (fun _ => ?_) (fun h => absurd (by decide) h)
                      refine rn_step rfl ?_
                      refine rb_push ?_
                      refine rb_goto ?_
                      refine rn_step rfl ?_
                      refine rb_iastL (xs' := List.replicate 5 0) rfl (by decide) (ok_lt (okA (okA (okL.sI s1_ok _ _ _) (c := 86) (n := 5) (by decide) rfl (by decide) rfl) (c := 87) (n := 5) (by decide) rfl (by decide) rfl) (c := 88) (n := 5) (by decide) rfl (by decide) (by decide)) rfl (wa_88 _ _) ?_
                      refine rb_push ?_
                      refine rb_istore (lv' := [some (.ref 68), some (.int 3), some (.int 0), some (.int (c)), some (.int 0), some (.int 0)]) rfl ?_
                      refine rb_goto ?_
                      refine rn_step rfl ?_
                      refine rb_iload rfl ?_
                      refine rb_push ?_
                      refine rb_cge (fun h => absurd h (by decide)) (fun _ => ?_)
                      refine rb_iload rfl ?_
                      refine rb_push ?_
                      refine rb_cne (fun _ => ?_) (fun h => absurd (by decide) h)
                      refine rn_step rfl ?_
                      refine rb_iload rfl ?_
                      refine rb_ret rfl rfl
                    case h3 => exact (okA (okA (okA (okL.sI s1_ok _ _ _) (c := 86) (n := 5) (by decide) rfl (by decide) rfl) (c := 87) (n := 5) (by decide) rfl (by decide) rfl) (c := 88) (n := 5) (by decide) rfl (by decide) rfl)
                    case h4 => exact rfl
                  ·
                    obtain rfl : a = 4 := ia_one hla hha (by decide) (by decide)
                    apply p1_intro (v := 0)
                    case h1 =>
                      apply ex_X8_lay
                      refine rn_step rfl ?_
                      refine rb_iload rfl ?_
                      apply rb_callS1
                      case hcl => exact rfl
                      case hc =>
                        apply ex_X8_isSlot
                        refine rn_step rfl ?_
                        refine rb_iload rfl ?_
                        refine rb_push ?_
                        refine rb_push ?_
                        apply rb_callS3
                        case hcl => exact rfl
                        case hc =>
                          apply ex_X8_within
                          refine rn_step rfl ?_
                          refine rb_iload rfl ?_
                          refine rb_iload rfl ?_
                          refine rb_clt (fun h => absurd h (by decide)) (fun _ => ?_)
                          refine rb_iload rfl ?_
                          refine rb_iload rfl ?_
                          refine rb_cgt (fun h => absurd h (by decide)) (fun _ => ?_)
                          refine rb_push ?_
                          refine rb_goto ?_
                          refine rn_step rfl ?_
                          refine rb_ret rfl rfl
                        refine rb_ret rfl rfl
                      refine rb_ieq (fun h => absurd h (by decide)) (fun _ => ?_)
                      refine rb_iload rfl ?_
                      refine rb_push ?_
                      refine rb_push ?_
                      apply rb_callS3
                      case hcl => exact rfl
                      case hc =>
                        apply ex_X8_within
                        refine rn_step rfl ?_
                        refine rb_iload rfl ?_
                        refine rb_iload rfl ?_
                        refine rb_clt (fun h => absurd h (by decide)) (fun _ => ?_)
                        refine rb_iload rfl ?_
                        refine rb_iload rfl ?_
                        refine rb_cgt (fun h => absurd h (by decide)) (fun _ => ?_)
                        refine rb_push ?_
                        refine rb_goto ?_
                        refine rn_step rfl ?_
                        refine rb_ret rfl rfl
                      refine rb_ine (fun _ => ?_) (fun h => absurd (by decide) h)
                      refine rn_step rfl ?_
                      refine rb_iload rfl ?_
                      refine rb_push ?_
                      refine rb_cne (fun _ => ?_) (fun h => absurd (by decide) h)
                      refine rn_step rfl ?_
                      refine rb_iload rfl ?_
                      refine rb_push ?_
                      refine rb_cne (fun _ => ?_) (fun h => absurd (by decide) h)
                      refine rn_step rfl ?_
                      refine rb_iload rfl ?_
                      refine rb_push ?_
                      refine rb_cne (fun _ => ?_) (fun h => absurd (by decide) h)
                      refine rn_step rfl ?_
                      refine rb_aload rfl ?_
                      refine rb_getf (v := .ref 43) rfl ?_
                      refine rb_iload rfl ?_
                      refine rb_aaldR rfl (by decide) rfl ?_
                      refine rb_astore (lv' := [some (.ref 0), some (.int 4), some (.int 0), some (.int (c)), some (.ref 65), none]) rfl ?_
                      refine rb_aload rfl ?_
                      refine rb_getf (v := .int 0) rfl ?_
                      refine rb_istore (lv' := [some (.ref 0), some (.int 4), some (.int 0), some (.int (c)), some (.ref 65), some (.int 0)]) rfl ?_
                      refine rb_aload rfl ?_
                      refine rb_iload rfl ?_
                      refine rb_putI (pf_65_1 _ _) ?_
                      refine rb_iload rfl ?_
                      refine rb_push ?_
                      refine rb_cne (fun _ => ?_) (fun h => absurd (by decide) h)
                      refine rn_step rfl ?_
                      refine rb_iload rfl ?_
                      refine rb_push ?_
                      refine rb_cne (fun _ => ?_) (fun h => absurd (by decide) h)
                      refine rn_step rfl ?_
                      refine rb_iload rfl ?_
                      refine rb_push ?_
                      refine rb_cne (fun _ => ?_) (fun h => absurd (by decide) h)
                      refine rn_step rfl ?_
                      refine rb_iload rfl ?_
                      refine rb_ret rfl rfl
                    case h2 =>
                      apply ex_X9_lay
                      refine rn_step rfl ?_
                      refine rb_iload rfl ?_
                      apply rb_callS1
                      case hcl => exact rfl
                      case hc =>
                        apply ex_X9_isSlot
                        refine rn_step rfl ?_
                        refine rb_iload rfl ?_
                        refine rb_push ?_
                        refine rb_push ?_
                        apply rb_callS3
                        case hcl => exact rfl
                        case hc =>
                          apply ex_X9_in
                          refine rn_step rfl ?_
                          refine rb_iload rfl ?_
                          refine rb_iload rfl ?_
                          refine rb_clt (fun h => absurd h (by decide)) (fun _ => ?_)
                          refine rb_iload rfl ?_
                          refine rb_iload rfl ?_
                          refine rb_cgt (fun h => absurd h (by decide)) (fun _ => ?_)
                          refine rb_push ?_
                          refine rb_goto ?_
                          refine rn_step rfl ?_
                          refine rb_ret rfl rfl
                        refine rb_ret rfl rfl
                      refine rb_ieq (fun h => absurd h (by decide)) (fun _ => ?_)
                      refine rb_iload rfl ?_
                      refine rb_push ?_
                      refine rb_push ?_
                      apply rb_callS3
                      case hcl => exact rfl
                      case hc =>
                        apply ex_X9_in
                        refine rn_step rfl ?_
                        refine rb_iload rfl ?_
                        refine rb_iload rfl ?_
                        refine rb_clt (fun h => absurd h (by decide)) (fun _ => ?_)
                        refine rb_iload rfl ?_
                        refine rb_iload rfl ?_
                        refine rb_cgt (fun h => absurd h (by decide)) (fun _ => ?_)
                        refine rb_push ?_
                        refine rb_goto ?_
                        refine rn_step rfl ?_
                        refine rb_ret rfl rfl
                      refine rb_ieq (fun h => absurd h (by decide)) (fun _ => ?_)
                      refine rb_iload rfl ?_
                      refine rb_push ?_
                      refine rb_cne (fun _ => ?_) (fun h => absurd (by decide) h)
                      refine rn_step rfl ?_
                      refine rb_iload rfl ?_
                      refine rb_push ?_
                      refine rb_cne (fun _ => ?_) (fun h => absurd (by decide) h)
                      refine rn_step rfl ?_
                      refine rb_iload rfl ?_
                      refine rb_push ?_
                      refine rb_cne (fun _ => ?_) (fun h => absurd (by decide) h)
                      refine rn_step rfl ?_
                      refine rb_aload rfl ?_
                      refine rb_getf (v := .ref 86) rfl ?_
                      refine rb_iload rfl ?_
                      refine rb_iald rfl (by decide) (show _ = some (0) from rfl) ?_
                      refine rb_istore (lv' := [some (.ref 68), some (.int 4), some (.int 0), some (.int (c)), some (.int 0), none]) rfl ?_
                      refine rb_aload rfl ?_
                      refine rb_getf (v := .ref 86) rfl ?_
                      refine rb_iload rfl ?_
                      refine rb_iload rfl ?_
                      refine rb_iastL (xs' := List.replicate 5 0) rfl (by decide) (ok_lt (okL.sI s1_ok _ _ _) (c := 86) (n := 5) (by decide) rfl (by decide) (by decide)) rfl (wa_86 _ _) ?_
                      refine rb_aload rfl ?_
                      refine rb_getf (v := .ref 87) rfl ?_
                      refine rb_iload rfl ?_
                      refine rb_iload rfl ?_
                      refine rb_push ?_
                      refine rb_cne (fun _ => ?_) (fun h => absurd (by decide) h)
                      refine rn_step rfl ?_
                      refine rb_iload rfl ?_
                      refine rb_push ?_
                      refine rb_cne (fun _ => ?_) (fun h => absurd (by decide) h)
                      refine rn_step rfl ?_
                      refine rb_iload rfl ?_
                      refine rb_goto ?_
                      refine rn_step rfl ?_
                      refine rb_iastL (xs' := [0, 0, 0, 0, c]) rfl (by decide) (ok_lt (okA (okL.sI s1_ok _ _ _) (c := 86) (n := 5) (by decide) rfl (by decide) rfl) (c := 87) (n := 5) (by decide) rfl (by decide) (by decide)) rfl (wa_87 _ _) ?_
                      refine rb_aload rfl ?_
                      refine rb_getf (v := .ref 88) rfl ?_
                      refine rb_iload rfl ?_
                      refine rb_iload rfl ?_
                      refine rb_push ?_
                      refine rb_cne (fun _ => ?_) (fun h => absurd (by decide) h)
                      refine rn_step rfl ?_
                      refine rb_push ?_
                      refine rb_goto ?_
                      refine rn_step rfl ?_
                      refine rb_iastL (xs' := List.replicate 5 0) rfl (by decide) (ok_lt (okA (okA (okL.sI s1_ok _ _ _) (c := 86) (n := 5) (by decide) rfl (by decide) rfl) (c := 87) (n := 5) (by decide) rfl (by decide) rfl) (c := 88) (n := 5) (by decide) rfl (by decide) (by decide)) rfl (wa_88 _ _) ?_
                      refine rb_push ?_
                      refine rb_istore (lv' := [some (.ref 68), some (.int 4), some (.int 0), some (.int (c)), some (.int 0), some (.int 0)]) rfl ?_
                      refine rb_goto ?_
                      refine rn_step rfl ?_
                      refine rb_iload rfl ?_
                      refine rb_push ?_
                      refine rb_cge (fun h => absurd h (by decide)) (fun _ => ?_)
                      refine rb_iload rfl ?_
                      refine rb_push ?_
                      refine rb_cne (fun _ => ?_) (fun h => absurd (by decide) h)
                      refine rn_step rfl ?_
                      refine rb_iload rfl ?_
                      refine rb_ret rfl rfl
                    case h3 => exact (okA (okA (okA (okL.sI s1_ok _ _ _) (c := 86) (n := 5) (by decide) rfl (by decide) rfl) (c := 87) (n := 5) (by decide) rfl (by decide) rfl) (c := 88) (n := 5) (by decide) rfl (by decide) rfl)
                    case h4 => exact rfl
          ·
            rcases ia_cut (c := 2) hlb hhb with ⟨hlb, hhb⟩ | ⟨hlb, hhb⟩
            ·
              obtain rfl : b = 1 := ia_one hlb hhb (by decide) (by decide)
              rcases ia_cut (c := 0) hlc hhc with ⟨hlc, hhc⟩ | ⟨hlc, hhc⟩
              ·
                apply p1_intro (v := (-1000000001))
                case h1 =>
                  apply ex_X8_lay
                  refine rn_step rfl ?_
                  refine rb_iload rfl ?_
                  apply rb_callS1
                  case hcl => exact rfl
                  case hc =>
                    apply ex_X8_isSlot
                    refine rn_step rfl ?_
                    refine rb_iload rfl ?_
                    refine rb_push ?_
                    refine rb_push ?_
                    apply rb_callS3
                    case hcl => exact rfl
                    case hc =>
                      apply ex_X8_within
                      refine rn_step rfl ?_
                      refine rb_iload rfl ?_
                      refine rb_iload rfl ?_
                      refine rb_clt (fun h => absurd h (ia_nlt hla (by decide))) (fun _ => ?_)
                      refine rb_iload rfl ?_
                      refine rb_iload rfl ?_
                      refine rb_cgt (fun h => absurd h (ia_ngt hha (by decide))) (fun _ => ?_)
                      refine rb_push ?_
                      refine rb_goto ?_
                      refine rn_step rfl ?_
                      refine rb_ret rfl rfl
                    refine rb_ret rfl rfl
                  refine rb_ieq (fun h => absurd h (by decide)) (fun _ => ?_)
                  refine rb_iload rfl ?_
                  refine rb_push ?_
                  refine rb_push ?_
                  apply rb_callS3
                  case hcl => exact rfl
                  case hc =>
                    apply ex_X8_within
                    refine rn_step rfl ?_
                    refine rb_iload rfl ?_
                    refine rb_iload rfl ?_
                    refine rb_clt (fun h => absurd h (by decide)) (fun _ => ?_)
                    refine rb_iload rfl ?_
                    refine rb_iload rfl ?_
                    refine rb_cgt (fun h => absurd h (by decide)) (fun _ => ?_)
                    refine rb_push ?_
                    refine rb_goto ?_
                    refine rn_step rfl ?_
                    refine rb_ret rfl rfl
                  refine rb_ine (fun _ => ?_) (fun h => absurd (by decide) h)
                  refine rn_step rfl ?_
                  refine rb_iload rfl ?_
                  refine rb_push ?_
                  refine rb_cne (fun h => absurd (by decide) h) (fun _ => ?_)
                  refine rb_aload rfl ?_
                  refine rb_iload rfl ?_
                  apply rb_callV1
                  case hb => exact rfl
                  case hcl => exact rfl
                  case hc =>
                    apply ex_X8_isStone
                    refine rn_step rfl ?_
                    refine rb_iload rfl ?_
                    refine rb_push ?_
                    refine rb_aload rfl ?_
                    refine rb_getf (v := .ref 1) rfl ?_
                    refine rb_getf (v := .int 0) rfl ?_
                    refine rb_push ?_
                    refine rb_binL (z := (-1)) (by decide) ?_
                    apply rb_callS3
                    case hcl => exact rfl
                    case hc =>
                      apply ex_X8_within
                      refine rn_step rfl ?_
                      refine rb_iload rfl ?_
                      refine rb_iload rfl ?_
                      refine rb_clt (fun _ => ?_) (fun h => absurd (ia_lt hhc (by decide)) h)
                      refine rn_step rfl ?_
                      refine rb_push ?_
                      refine rb_goto ?_
                      refine rn_step rfl ?_
                      refine rb_ret rfl rfl
                    refine rb_ret rfl rfl
                  refine rb_ieq (fun _ => ?_) (fun h => absurd (by decide) h)
                  refine rn_step rfl ?_
                  refine rb_push ?_
                  refine rb_ret rfl rfl
                case h2 =>
                  apply ex_X9_lay
                  refine rn_step rfl ?_
                  refine rb_iload rfl ?_
                  apply rb_callS1
                  case hcl => exact rfl
                  case hc =>
                    apply ex_X9_isSlot
                    refine rn_step rfl ?_
                    refine rb_iload rfl ?_
                    refine rb_push ?_
                    refine rb_push ?_
                    apply rb_callS3
                    case hcl => exact rfl
                    case hc =>
                      apply ex_X9_in
                      refine rn_step rfl ?_
                      refine rb_iload rfl ?_
                      refine rb_iload rfl ?_
                      refine rb_clt (fun h => absurd h (ia_nlt hla (by decide))) (fun _ => ?_)
                      refine rb_iload rfl ?_
                      refine rb_iload rfl ?_
                      refine rb_cgt (fun h => absurd h (ia_ngt hha (by decide))) (fun _ => ?_)
                      refine rb_push ?_
                      refine rb_goto ?_
                      refine rn_step rfl ?_
                      refine rb_ret rfl rfl
                    refine rb_ret rfl rfl
                  refine rb_ieq (fun h => absurd h (by decide)) (fun _ => ?_)
                  refine rb_iload rfl ?_
                  refine rb_push ?_
                  refine rb_push ?_
                  apply rb_callS3
                  case hcl => exact rfl
                  case hc =>
                    apply ex_X9_in
                    refine rn_step rfl ?_
                    refine rb_iload rfl ?_
                    refine rb_iload rfl ?_
                    refine rb_clt (fun h => absurd h (by decide)) (fun _ => ?_)
                    refine rb_iload rfl ?_
                    refine rb_iload rfl ?_
                    refine rb_cgt (fun h => absurd h (by decide)) (fun _ => ?_)
                    refine rb_push ?_
                    refine rb_goto ?_
                    refine rn_step rfl ?_
                    refine rb_ret rfl rfl
                  refine rb_ieq (fun h => absurd h (by decide)) (fun _ => ?_)
                  refine rb_iload rfl ?_
                  refine rb_push ?_
                  refine rb_cne (fun h => absurd (by decide) h) (fun _ => ?_)
                  refine rb_aload rfl ?_
                  refine rb_iload rfl ?_
                  apply rb_callV1
                  case hb => exact rfl
                  case hcl => exact rfl
                  case hc =>
                    apply ex_X9_isStone
                    refine rn_step rfl ?_
                    refine rb_iload rfl ?_
                    refine rb_push ?_
                    refine rb_aload rfl ?_
                    refine rb_getf (v := .ref 69) rfl ?_
                    refine rb_push ?_
                    refine rb_iald rfl (by decide) (show _ = some (0) from rfl) ?_
                    refine rb_push ?_
                    refine rb_binL (z := (-1)) (by decide) ?_
                    apply rb_callS3
                    case hcl => exact rfl
                    case hc =>
                      apply ex_X9_in
                      refine rn_step rfl ?_
                      refine rb_iload rfl ?_
                      refine rb_iload rfl ?_
                      refine rb_clt (fun _ => ?_) (fun h => absurd (ia_lt hhc (by decide)) h)
                      refine rn_step rfl ?_
                      refine rb_push ?_
                      refine rb_goto ?_
                      refine rn_step rfl ?_
                      refine rb_ret rfl rfl
                    refine rb_ret rfl rfl
                  refine rb_ieq (fun _ => ?_) (fun h => absurd (by decide) h)
                  refine rn_step rfl ?_
                  refine rb_push ?_
                  refine rb_ret rfl rfl
                case h3 => exact s1_ok
                case h4 => exact rfl
              ·
                apply p1_intro (v := (-1000000001))
                case h1 =>
                  apply ex_X8_lay
                  refine rn_step rfl ?_
                  refine rb_iload rfl ?_
                  apply rb_callS1
                  case hcl => exact rfl
                  case hc =>
                    apply ex_X8_isSlot
                    refine rn_step rfl ?_
                    refine rb_iload rfl ?_
                    refine rb_push ?_
                    refine rb_push ?_
                    apply rb_callS3
                    case hcl => exact rfl
                    case hc =>
                      apply ex_X8_within
                      refine rn_step rfl ?_
                      refine rb_iload rfl ?_
                      refine rb_iload rfl ?_
                      refine rb_clt (fun h => absurd h (ia_nlt hla (by decide))) (fun _ => ?_)
                      refine rb_iload rfl ?_
                      refine rb_iload rfl ?_
                      refine rb_cgt (fun h => absurd h (ia_ngt hha (by decide))) (fun _ => ?_)
                      refine rb_push ?_
                      refine rb_goto ?_
                      refine rn_step rfl ?_
                      refine rb_ret rfl rfl
                    refine rb_ret rfl rfl
                  refine rb_ieq (fun h => absurd h (by decide)) (fun _ => ?_)
                  refine rb_iload rfl ?_
                  refine rb_push ?_
                  refine rb_push ?_
                  apply rb_callS3
                  case hcl => exact rfl
                  case hc =>
                    apply ex_X8_within
                    refine rn_step rfl ?_
                    refine rb_iload rfl ?_
                    refine rb_iload rfl ?_
                    refine rb_clt (fun h => absurd h (by decide)) (fun _ => ?_)
                    refine rb_iload rfl ?_
                    refine rb_iload rfl ?_
                    refine rb_cgt (fun h => absurd h (by decide)) (fun _ => ?_)
                    refine rb_push ?_
                    refine rb_goto ?_
                    refine rn_step rfl ?_
                    refine rb_ret rfl rfl
                  refine rb_ine (fun _ => ?_) (fun h => absurd (by decide) h)
                  refine rn_step rfl ?_
                  refine rb_iload rfl ?_
                  refine rb_push ?_
                  refine rb_cne (fun h => absurd (by decide) h) (fun _ => ?_)
                  refine rb_aload rfl ?_
                  refine rb_iload rfl ?_
                  apply rb_callV1
                  case hb => exact rfl
                  case hcl => exact rfl
                  case hc =>
                    apply ex_X8_isStone
                    refine rn_step rfl ?_
                    refine rb_iload rfl ?_
                    refine rb_push ?_
                    refine rb_aload rfl ?_
                    refine rb_getf (v := .ref 1) rfl ?_
                    refine rb_getf (v := .int 0) rfl ?_
                    refine rb_push ?_
                    refine rb_binL (z := (-1)) (by decide) ?_
                    apply rb_callS3
                    case hcl => exact rfl
                    case hc =>
                      apply ex_X8_within
                      refine rn_step rfl ?_
                      refine rb_iload rfl ?_
                      refine rb_iload rfl ?_
                      refine rb_clt (fun h => absurd h (ia_nlt hlc (by decide))) (fun _ => ?_)
                      refine rb_iload rfl ?_
                      refine rb_iload rfl ?_
                      refine rb_cgt (fun _ => ?_) (fun h => absurd (ia_gt hlc (by decide)) h)
                      refine rn_step rfl ?_
                      refine rb_push ?_
                      refine rb_goto ?_
                      refine rn_step rfl ?_
                      refine rb_ret rfl rfl
                    refine rb_ret rfl rfl
                  refine rb_ieq (fun _ => ?_) (fun h => absurd (by decide) h)
                  refine rn_step rfl ?_
                  refine rb_push ?_
                  refine rb_ret rfl rfl
                case h2 =>
                  apply ex_X9_lay
                  refine rn_step rfl ?_
                  refine rb_iload rfl ?_
                  apply rb_callS1
                  case hcl => exact rfl
                  case hc =>
                    apply ex_X9_isSlot
                    refine rn_step rfl ?_
                    refine rb_iload rfl ?_
                    refine rb_push ?_
                    refine rb_push ?_
                    apply rb_callS3
                    case hcl => exact rfl
                    case hc =>
                      apply ex_X9_in
                      refine rn_step rfl ?_
                      refine rb_iload rfl ?_
                      refine rb_iload rfl ?_
                      refine rb_clt (fun h => absurd h (ia_nlt hla (by decide))) (fun _ => ?_)
                      refine rb_iload rfl ?_
                      refine rb_iload rfl ?_
                      refine rb_cgt (fun h => absurd h (ia_ngt hha (by decide))) (fun _ => ?_)
                      refine rb_push ?_
                      refine rb_goto ?_
                      refine rn_step rfl ?_
                      refine rb_ret rfl rfl
                    refine rb_ret rfl rfl
                  refine rb_ieq (fun h => absurd h (by decide)) (fun _ => ?_)
                  refine rb_iload rfl ?_
                  refine rb_push ?_
                  refine rb_push ?_
                  apply rb_callS3
                  case hcl => exact rfl
                  case hc =>
                    apply ex_X9_in
                    refine rn_step rfl ?_
                    refine rb_iload rfl ?_
                    refine rb_iload rfl ?_
                    refine rb_clt (fun h => absurd h (by decide)) (fun _ => ?_)
                    refine rb_iload rfl ?_
                    refine rb_iload rfl ?_
                    refine rb_cgt (fun h => absurd h (by decide)) (fun _ => ?_)
                    refine rb_push ?_
                    refine rb_goto ?_
                    refine rn_step rfl ?_
                    refine rb_ret rfl rfl
                  refine rb_ieq (fun h => absurd h (by decide)) (fun _ => ?_)
                  refine rb_iload rfl ?_
                  refine rb_push ?_
                  refine rb_cne (fun h => absurd (by decide) h) (fun _ => ?_)
                  refine rb_aload rfl ?_
                  refine rb_iload rfl ?_
                  apply rb_callV1
                  case hb => exact rfl
                  case hcl => exact rfl
                  case hc =>
                    apply ex_X9_isStone
                    refine rn_step rfl ?_
                    refine rb_iload rfl ?_
                    refine rb_push ?_
                    refine rb_aload rfl ?_
                    refine rb_getf (v := .ref 69) rfl ?_
                    refine rb_push ?_
                    refine rb_iald rfl (by decide) (show _ = some (0) from rfl) ?_
                    refine rb_push ?_
                    refine rb_binL (z := (-1)) (by decide) ?_
                    apply rb_callS3
                    case hcl => exact rfl
                    case hc =>
                      apply ex_X9_in
                      refine rn_step rfl ?_
                      refine rb_iload rfl ?_
                      refine rb_iload rfl ?_
                      refine rb_clt (fun h => absurd h (ia_nlt hlc (by decide))) (fun _ => ?_)
                      refine rb_iload rfl ?_
                      refine rb_iload rfl ?_
                      refine rb_cgt (fun _ => ?_) (fun h => absurd (ia_gt hlc (by decide)) h)
                      refine rn_step rfl ?_
                      refine rb_push ?_
                      refine rb_goto ?_
                      refine rn_step rfl ?_
                      refine rb_ret rfl rfl
                    refine rb_ret rfl rfl
                  refine rb_ieq (fun _ => ?_) (fun h => absurd (by decide) h)
                  refine rn_step rfl ?_
                  refine rb_push ?_
                  refine rb_ret rfl rfl
                case h3 => exact s1_ok
                case h4 => exact rfl
            ·
              rcases ia_cut (c := 3) hlb hhb with ⟨hlb, hhb⟩ | ⟨hlb, hhb⟩
              ·
                obtain rfl : b = 2 := ia_one hlb hhb (by decide) (by decide)
                rcases ia_cut (c := 0) hlc hhc with ⟨hlc, hhc⟩ | ⟨hlc, hhc⟩
                ·
                  apply p1_intro (v := (-1000000001))
                  case h1 =>
                    apply ex_X8_lay
                    refine rn_step rfl ?_
                    refine rb_iload rfl ?_
                    apply rb_callS1
                    case hcl => exact rfl
                    case hc =>
                      apply ex_X8_isSlot
                      refine rn_step rfl ?_
                      refine rb_iload rfl ?_
                      refine rb_push ?_
                      refine rb_push ?_
                      apply rb_callS3
                      case hcl => exact rfl
                      case hc =>
                        apply ex_X8_within
                        refine rn_step rfl ?_
                        refine rb_iload rfl ?_
                        refine rb_iload rfl ?_
                        refine rb_clt (fun h => absurd h (ia_nlt hla (by decide))) (fun _ => ?_)
                        refine rb_iload rfl ?_
                        refine rb_iload rfl ?_
                        refine rb_cgt (fun h => absurd h (ia_ngt hha (by decide))) (fun _ => ?_)
                        refine rb_push ?_
                        refine rb_goto ?_
                        refine rn_step rfl ?_
                        refine rb_ret rfl rfl
                      refine rb_ret rfl rfl
                    refine rb_ieq (fun h => absurd h (by decide)) (fun _ => ?_)
                    refine rb_iload rfl ?_
                    refine rb_push ?_
                    refine rb_push ?_
                    apply rb_callS3
                    case hcl => exact rfl
                    case hc =>
                      apply ex_X8_within
                      refine rn_step rfl ?_
                      refine rb_iload rfl ?_
                      refine rb_iload rfl ?_
                      refine rb_clt (fun h => absurd h (by decide)) (fun _ => ?_)
                      refine rb_iload rfl ?_
                      refine rb_iload rfl ?_
                      refine rb_cgt (fun h => absurd h (by decide)) (fun _ => ?_)
                      refine rb_push ?_
                      refine rb_goto ?_
                      refine rn_step rfl ?_
                      refine rb_ret rfl rfl
                    refine rb_ine (fun _ => ?_) (fun h => absurd (by decide) h)
                    refine rn_step rfl ?_
                    refine rb_iload rfl ?_
                    refine rb_push ?_
                    refine rb_cne (fun _ => ?_) (fun h => absurd (by decide) h)
                    refine rn_step rfl ?_
                    refine rb_iload rfl ?_
                    refine rb_push ?_
                    refine rb_cne (fun h => absurd (by decide) h) (fun _ => ?_)
                    refine rb_iload rfl ?_
                    apply rb_callS1
                    case hcl => exact rfl
                    case hc =>
                      apply ex_X8_isSheet
                      refine rn_step rfl ?_
                      refine rb_iload rfl ?_
                      refine rb_push ?_
                      refine rb_push ?_
                      apply rb_callS3
                      case hcl => exact rfl
                      case hc =>
                        apply ex_X8_within
                        refine rn_step rfl ?_
                        refine rb_iload rfl ?_
                        refine rb_iload rfl ?_
                        refine rb_clt (fun _ => ?_) (fun h => absurd (ia_lt hhc (by decide)) h)
                        refine rn_step rfl ?_
                        refine rb_push ?_
                        refine rb_goto ?_
                        refine rn_step rfl ?_
                        refine rb_ret rfl rfl
                      refine rb_ret rfl rfl
                    refine rb_ine (fun h => absurd (by decide) h) (fun _ => ?_)
                    refine rb_goto ?_
                    refine rn_step rfl ?_
                    refine rb_push ?_
                    refine rb_ret rfl rfl
                  case h2 =>
                    apply ex_X9_lay
                    refine rn_step rfl ?_
                    refine rb_iload rfl ?_
                    apply rb_callS1
                    case hcl => exact rfl
                    case hc =>
                      apply ex_X9_isSlot
                      refine rn_step rfl ?_
                      refine rb_iload rfl ?_
                      refine rb_push ?_
                      refine rb_push ?_
                      apply rb_callS3
                      case hcl => exact rfl
                      case hc =>
                        apply ex_X9_in
                        refine rn_step rfl ?_
                        refine rb_iload rfl ?_
                        refine rb_iload rfl ?_
                        refine rb_clt (fun h => absurd h (ia_nlt hla (by decide))) (fun _ => ?_)
                        refine rb_iload rfl ?_
                        refine rb_iload rfl ?_
                        refine rb_cgt (fun h => absurd h (ia_ngt hha (by decide))) (fun _ => ?_)
                        refine rb_push ?_
                        refine rb_goto ?_
                        refine rn_step rfl ?_
                        refine rb_ret rfl rfl
                      refine rb_ret rfl rfl
                    refine rb_ieq (fun h => absurd h (by decide)) (fun _ => ?_)
                    refine rb_iload rfl ?_
                    refine rb_push ?_
                    refine rb_push ?_
                    apply rb_callS3
                    case hcl => exact rfl
                    case hc =>
                      apply ex_X9_in
                      refine rn_step rfl ?_
                      refine rb_iload rfl ?_
                      refine rb_iload rfl ?_
                      refine rb_clt (fun h => absurd h (by decide)) (fun _ => ?_)
                      refine rb_iload rfl ?_
                      refine rb_iload rfl ?_
                      refine rb_cgt (fun h => absurd h (by decide)) (fun _ => ?_)
                      refine rb_push ?_
                      refine rb_goto ?_
                      refine rn_step rfl ?_
                      refine rb_ret rfl rfl
                    refine rb_ieq (fun h => absurd h (by decide)) (fun _ => ?_)
                    refine rb_iload rfl ?_
                    refine rb_push ?_
                    refine rb_cne (fun _ => ?_) (fun h => absurd (by decide) h)
                    refine rn_step rfl ?_
                    refine rb_iload rfl ?_
                    refine rb_push ?_
                    refine rb_cne (fun h => absurd (by decide) h) (fun _ => ?_)
                    refine rb_iload rfl ?_
                    apply rb_callS1
                    case hcl => exact rfl
                    case hc =>
                      apply ex_X9_isSheet
                      refine rn_step rfl ?_
                      refine rb_iload rfl ?_
                      refine rb_push ?_
                      refine rb_push ?_
                      apply rb_callS3
                      case hcl => exact rfl
                      case hc =>
                        apply ex_X9_in
                        refine rn_step rfl ?_
                        refine rb_iload rfl ?_
                        refine rb_iload rfl ?_
                        refine rb_clt (fun _ => ?_) (fun h => absurd (ia_lt hhc (by decide)) h)
                        refine rn_step rfl ?_
                        refine rb_push ?_
                        refine rb_goto ?_
                        refine rn_step rfl ?_
                        refine rb_ret rfl rfl
                      refine rb_ret rfl rfl
                    refine rb_ine (fun h => absurd (by decide) h) (fun _ => ?_)
                    refine rb_goto ?_
                    refine rn_step rfl ?_
                    refine rb_push ?_
                    refine rb_ret rfl rfl
                  case h3 => exact s1_ok
                  case h4 => exact rfl
                ·
                  rcases ia_cut (c := 4) hlc hhc with ⟨hlc, hhc⟩ | ⟨hlc, hhc⟩
                  ·
                    -- box [(0, 4), (2, 2), (0, 3)]
                    obtain ⟨n0, hn0, rfl⟩ := ia_box (l := 0) (m := 5) hla hha (by decide) (by decide)
                    obtain ⟨n2, hn2, rfl⟩ := ia_box (l := 0) (m := 4) hlc hhc (by decide) (by decide)
                    exact ck_ok (bx_lay_47 n0 hn0 n2 hn2)
                  ·
                    apply p1_intro (v := (-1000000001))
                    case h1 =>
                      apply ex_X8_lay
                      refine rn_step rfl ?_
                      refine rb_iload rfl ?_
                      apply rb_callS1
                      case hcl => exact rfl
                      case hc =>
                        apply ex_X8_isSlot
                        refine rn_step rfl ?_
                        refine rb_iload rfl ?_
                        refine rb_push ?_
                        refine rb_push ?_
                        apply rb_callS3
                        case hcl => exact rfl
                        case hc =>
                          apply ex_X8_within
                          refine rn_step rfl ?_
                          refine rb_iload rfl ?_
                          refine rb_iload rfl ?_
                          refine rb_clt (fun h => absurd h (ia_nlt hla (by decide))) (fun _ => ?_)
                          refine rb_iload rfl ?_
                          refine rb_iload rfl ?_
                          refine rb_cgt (fun h => absurd h (ia_ngt hha (by decide))) (fun _ => ?_)
                          refine rb_push ?_
                          refine rb_goto ?_
                          refine rn_step rfl ?_
                          refine rb_ret rfl rfl
                        refine rb_ret rfl rfl
                      refine rb_ieq (fun h => absurd h (by decide)) (fun _ => ?_)
                      refine rb_iload rfl ?_
                      refine rb_push ?_
                      refine rb_push ?_
                      apply rb_callS3
                      case hcl => exact rfl
                      case hc =>
                        apply ex_X8_within
                        refine rn_step rfl ?_
                        refine rb_iload rfl ?_
                        refine rb_iload rfl ?_
                        refine rb_clt (fun h => absurd h (by decide)) (fun _ => ?_)
                        refine rb_iload rfl ?_
                        refine rb_iload rfl ?_
                        refine rb_cgt (fun h => absurd h (by decide)) (fun _ => ?_)
                        refine rb_push ?_
                        refine rb_goto ?_
                        refine rn_step rfl ?_
                        refine rb_ret rfl rfl
                      refine rb_ine (fun _ => ?_) (fun h => absurd (by decide) h)
                      refine rn_step rfl ?_
                      refine rb_iload rfl ?_
                      refine rb_push ?_
                      refine rb_cne (fun _ => ?_) (fun h => absurd (by decide) h)
                      refine rn_step rfl ?_
                      refine rb_iload rfl ?_
                      refine rb_push ?_
                      refine rb_cne (fun h => absurd (by decide) h) (fun _ => ?_)
                      refine rb_iload rfl ?_
                      apply rb_callS1
                      case hcl => exact rfl
                      case hc =>
                        apply ex_X8_isSheet
                        refine rn_step rfl ?_
                        refine rb_iload rfl ?_
                        refine rb_push ?_
                        refine rb_push ?_
                        apply rb_callS3
                        case hcl => exact rfl
                        case hc =>
                          apply ex_X8_within
                          refine rn_step rfl ?_
                          refine rb_iload rfl ?_
                          refine rb_iload rfl ?_
                          refine rb_clt (fun h => absurd h (ia_nlt hlc (by decide))) (fun _ => ?_)
                          refine rb_iload rfl ?_
                          refine rb_iload rfl ?_
                          refine rb_cgt (fun _ => ?_) (fun h => absurd (ia_gt hlc (by decide)) h)
                          refine rn_step rfl ?_
                          refine rb_push ?_
                          refine rb_goto ?_
                          refine rn_step rfl ?_
                          refine rb_ret rfl rfl
                        refine rb_ret rfl rfl
                      refine rb_ine (fun h => absurd (by decide) h) (fun _ => ?_)
                      refine rb_goto ?_
                      refine rn_step rfl ?_
                      refine rb_push ?_
                      refine rb_ret rfl rfl
                    case h2 =>
                      apply ex_X9_lay
                      refine rn_step rfl ?_
                      refine rb_iload rfl ?_
                      apply rb_callS1
                      case hcl => exact rfl
                      case hc =>
                        apply ex_X9_isSlot
                        refine rn_step rfl ?_
                        refine rb_iload rfl ?_
                        refine rb_push ?_
                        refine rb_push ?_
                        apply rb_callS3
                        case hcl => exact rfl
                        case hc =>
                          apply ex_X9_in
                          refine rn_step rfl ?_
                          refine rb_iload rfl ?_
                          refine rb_iload rfl ?_
                          refine rb_clt (fun h => absurd h (ia_nlt hla (by decide))) (fun _ => ?_)
                          refine rb_iload rfl ?_
                          refine rb_iload rfl ?_
                          refine rb_cgt (fun h => absurd h (ia_ngt hha (by decide))) (fun _ => ?_)
                          refine rb_push ?_
                          refine rb_goto ?_
                          refine rn_step rfl ?_
                          refine rb_ret rfl rfl
                        refine rb_ret rfl rfl
                      refine rb_ieq (fun h => absurd h (by decide)) (fun _ => ?_)
                      refine rb_iload rfl ?_
                      refine rb_push ?_
                      refine rb_push ?_
                      apply rb_callS3
                      case hcl => exact rfl
                      case hc =>
                        apply ex_X9_in
                        refine rn_step rfl ?_
                        refine rb_iload rfl ?_
                        refine rb_iload rfl ?_
                        refine rb_clt (fun h => absurd h (by decide)) (fun _ => ?_)
                        refine rb_iload rfl ?_
                        refine rb_iload rfl ?_
                        refine rb_cgt (fun h => absurd h (by decide)) (fun _ => ?_)
                        refine rb_push ?_
                        refine rb_goto ?_
                        refine rn_step rfl ?_
                        refine rb_ret rfl rfl
                      refine rb_ieq (fun h => absurd h (by decide)) (fun _ => ?_)
                      refine rb_iload rfl ?_
                      refine rb_push ?_
                      refine rb_cne (fun _ => ?_) (fun h => absurd (by decide) h)
                      refine rn_step rfl ?_
                      refine rb_iload rfl ?_
                      refine rb_push ?_
                      refine rb_cne (fun h => absurd (by decide) h) (fun _ => ?_)
                      refine rb_iload rfl ?_
                      apply rb_callS1
                      case hcl => exact rfl
                      case hc =>
                        apply ex_X9_isSheet
                        refine rn_step rfl ?_
                        refine rb_iload rfl ?_
                        refine rb_push ?_
                        refine rb_push ?_
                        apply rb_callS3
                        case hcl => exact rfl
                        case hc =>
                          apply ex_X9_in
                          refine rn_step rfl ?_
                          refine rb_iload rfl ?_
                          refine rb_iload rfl ?_
                          refine rb_clt (fun h => absurd h (ia_nlt hlc (by decide))) (fun _ => ?_)
                          refine rb_iload rfl ?_
                          refine rb_iload rfl ?_
                          refine rb_cgt (fun _ => ?_) (fun h => absurd (ia_gt hlc (by decide)) h)
                          refine rn_step rfl ?_
                          refine rb_push ?_
                          refine rb_goto ?_
                          refine rn_step rfl ?_
                          refine rb_ret rfl rfl
                        refine rb_ret rfl rfl
                      refine rb_ine (fun h => absurd (by decide) h) (fun _ => ?_)
                      refine rb_goto ?_
                      refine rn_step rfl ?_
                      refine rb_push ?_
                      refine rb_ret rfl rfl
                    case h3 => exact s1_ok
                    case h4 => exact rfl
              ·
                obtain rfl : b = 3 := ia_one hlb hhb (by decide) (by decide)
                rcases ia_cut (c := 1) hla hha with ⟨hla, hha⟩ | ⟨hla, hha⟩
                ·
                  obtain rfl : a = 0 := ia_one hla hha (by decide) (by decide)
                  apply p1_intro (v := 0)
                  case h1 =>
                    apply ex_X8_lay
                    refine rn_step rfl ?_
                    refine rb_iload rfl ?_
                    apply rb_callS1
                    case hcl => exact rfl
                    case hc =>
                      apply ex_X8_isSlot
                      refine rn_step rfl ?_
                      refine rb_iload rfl ?_
                      refine rb_push ?_
                      refine rb_push ?_
                      apply rb_callS3
                      case hcl => exact rfl
                      case hc =>
                        apply ex_X8_within
                        refine rn_step rfl ?_
                        refine rb_iload rfl ?_
                        refine rb_iload rfl ?_
                        refine rb_clt (fun h => absurd h (by decide)) (fun _ => ?_)
                        refine rb_iload rfl ?_
                        refine rb_iload rfl ?_
                        refine rb_cgt (fun h => absurd h (by decide)) (fun _ => ?_)
                        refine rb_push ?_
                        refine rb_goto ?_
                        refine rn_step rfl ?_
                        refine rb_ret rfl rfl
                      refine rb_ret rfl rfl
                    refine rb_ieq (fun h => absurd h (by decide)) (fun _ => ?_)
                    refine rb_iload rfl ?_
                    refine rb_push ?_
                    refine rb_push ?_
                    apply rb_callS3
                    case hcl => exact rfl
                    case hc =>
                      apply ex_X8_within
                      refine rn_step rfl ?_
                      refine rb_iload rfl ?_
                      refine rb_iload rfl ?_
                      refine rb_clt (fun h => absurd h (by decide)) (fun _ => ?_)
                      refine rb_iload rfl ?_
                      refine rb_iload rfl ?_
                      refine rb_cgt (fun h => absurd h (by decide)) (fun _ => ?_)
                      refine rb_push ?_
                      refine rb_goto ?_
                      refine rn_step rfl ?_
                      refine rb_ret rfl rfl
                    refine rb_ine (fun _ => ?_) (fun h => absurd (by decide) h)
                    refine rn_step rfl ?_
                    refine rb_iload rfl ?_
                    refine rb_push ?_
                    refine rb_cne (fun _ => ?_) (fun h => absurd (by decide) h)
                    refine rn_step rfl ?_
                    refine rb_iload rfl ?_
                    refine rb_push ?_
                    refine rb_cne (fun _ => ?_) (fun h => absurd (by decide) h)
                    refine rn_step rfl ?_
                    refine rb_iload rfl ?_
                    refine rb_push ?_
                    refine rb_cne (fun _ => ?_) (fun h => absurd (by decide) h)
                    refine rn_step rfl ?_
                    refine rb_aload rfl ?_
                    refine rb_getf (v := .ref 43) rfl ?_
                    refine rb_iload rfl ?_
                    refine rb_aaldR rfl (by decide) rfl ?_
                    refine rb_astore (lv' := [some (.ref 0), some (.int 0), some (.int 3), some (.int (c)), some (.ref 53), none]) rfl ?_
                    refine rb_aload rfl ?_
                    refine rb_getf (v := .int 0) rfl ?_
                    refine rb_istore (lv' := [some (.ref 0), some (.int 0), some (.int 3), some (.int (c)), some (.ref 53), some (.int 0)]) rfl ?_
                    refine rb_aload rfl ?_
                    refine rb_iload rfl ?_
                    refine rb_putI (pf_53_1 _ _) ?_
                    refine rb_iload rfl ?_
                    refine rb_push ?_
                    refine rb_cne (fun _ => ?_) (fun h => absurd (by decide) h)
                    refine rn_step rfl ?_
                    refine rb_iload rfl ?_
                    refine rb_push ?_
                    refine rb_cne (fun _ => ?_) (fun h => absurd (by decide) h)
                    refine rn_step rfl ?_
                    refine rb_iload rfl ?_
                    refine rb_push ?_
                    refine rb_cne (fun h => absurd (by decide) h) (fun _ => ?_)
                    refine rb_aload rfl ?_
                    refine rb_iload rfl ?_
                    refine rb_putI (pf_53_5 _ _) ?_
                    refine rb_goto ?_
                    refine rn_step rfl ?_
                    refine rb_iload rfl ?_
                    refine rb_ret rfl rfl
                  case h2 =>
                    apply ex_X9_lay
                    refine rn_step rfl ?_
                    refine rb_iload rfl ?_
                    apply rb_callS1
                    case hcl => exact rfl
                    case hc =>
                      apply ex_X9_isSlot
                      refine rn_step rfl ?_
                      refine rb_iload rfl ?_
                      refine rb_push ?_
                      refine rb_push ?_
                      apply rb_callS3
                      case hcl => exact rfl
                      case hc =>
                        apply ex_X9_in
                        refine rn_step rfl ?_
                        refine rb_iload rfl ?_
                        refine rb_iload rfl ?_
                        refine rb_clt (fun h => absurd h (by decide)) (fun _ => ?_)
                        refine rb_iload rfl ?_
                        refine rb_iload rfl ?_
                        refine rb_cgt (fun h => absurd h (by decide)) (fun _ => ?_)
                        refine rb_push ?_
                        refine rb_goto ?_
                        refine rn_step rfl ?_
                        refine rb_ret rfl rfl
                      refine rb_ret rfl rfl
                    refine rb_ieq (fun h => absurd h (by decide)) (fun _ => ?_)
                    refine rb_iload rfl ?_
                    refine rb_push ?_
                    refine rb_push ?_
                    apply rb_callS3
                    case hcl => exact rfl
                    case hc =>
                      apply ex_X9_in
                      refine rn_step rfl ?_
                      refine rb_iload rfl ?_
                      refine rb_iload rfl ?_
                      refine rb_clt (fun h => absurd h (by decide)) (fun _ => ?_)
                      refine rb_iload rfl ?_
                      refine rb_iload rfl ?_
                      refine rb_cgt (fun h => absurd h (by decide)) (fun _ => ?_)
                      refine rb_push ?_
                      refine rb_goto ?_
                      refine rn_step rfl ?_
                      refine rb_ret rfl rfl
                    refine rb_ieq (fun h => absurd h (by decide)) (fun _ => ?_)
                    refine rb_iload rfl ?_
                    refine rb_push ?_
                    refine rb_cne (fun _ => ?_) (fun h => absurd (by decide) h)
                    refine rn_step rfl ?_
                    refine rb_iload rfl ?_
                    refine rb_push ?_
                    refine rb_cne (fun _ => ?_) (fun h => absurd (by decide) h)
                    refine rn_step rfl ?_
                    refine rb_iload rfl ?_
                    refine rb_push ?_
                    refine rb_cne (fun _ => ?_) (fun h => absurd (by decide) h)
                    refine rn_step rfl ?_
                    refine rb_aload rfl ?_
                    refine rb_getf (v := .ref 86) rfl ?_
                    refine rb_iload rfl ?_
                    refine rb_iald rfl (by decide) (show _ = some (0) from rfl) ?_
                    refine rb_istore (lv' := [some (.ref 68), some (.int 0), some (.int 3), some (.int (c)), some (.int 0), none]) rfl ?_
                    refine rb_aload rfl ?_
                    refine rb_getf (v := .ref 86) rfl ?_
                    refine rb_iload rfl ?_
                    refine rb_iload rfl ?_
                    refine rb_iastL (xs' := [3] ++ List.replicate 4 0) rfl (by decide) (ok_lt (okL.sI (okL.sI s1_ok _ _ _) _ _ _) (c := 86) (n := 5) (by decide) rfl (by decide) (by decide)) rfl (wa_86 _ _) ?_
                    refine rb_aload rfl ?_
                    refine rb_getf (v := .ref 87) rfl ?_
                    refine rb_iload rfl ?_
                    refine rb_iload rfl ?_
                    refine rb_push ?_
                    refine rb_cne (fun _ => ?_) (fun h => absurd (by decide) h)
                    refine rn_step rfl ?_
                    refine rb_iload rfl ?_
                    refine rb_push ?_
                    refine rb_cne (fun _ => ?_) (fun h => absurd (by decide) h)
                    refine rn_step rfl ?_
                    refine rb_iload rfl ?_
                    refine rb_goto ?_
                    refine rn_step rfl ?_
                    refine rb_iastL (xs' := [c] ++ List.replicate 4 0) rfl (by decide) (ok_lt (okA (okL.sI (okL.sI s1_ok _ _ _) _ _ _) (c := 86) (n := 5) (by decide) rfl (by decide) rfl) (c := 87) (n := 5) (by decide) rfl (by decide) (by decide)) rfl (wa_87 _ _) ?_
                    refine rb_aload rfl ?_
                    refine rb_getf (v := .ref 88) rfl ?_
                    refine rb_iload rfl ?_
                    refine rb_iload rfl ?_
                    refine rb_push ?_
                    refine rb_cne (fun _ => ?_) (fun h => absurd (by decide) h)
                    refine rn_step rfl ?_
                    refine rb_push ?_
                    refine rb_goto ?_
                    refine rn_step rfl ?_
                    refine rb_iastL (xs' := List.replicate 5 0) rfl (by decide) (ok_lt (okA (okA (okL.sI (okL.sI s1_ok _ _ _) _ _ _) (c := 86) (n := 5) (by decide) rfl (by decide) rfl) (c := 87) (n := 5) (by decide) rfl (by decide) rfl) (c := 88) (n := 5) (by decide) rfl (by decide) (by decide)) rfl (wa_88 _ _) ?_
                    refine rb_push ?_
                    refine rb_istore (lv' := [some (.ref 68), some (.int 0), some (.int 3), some (.int (c)), some (.int 0), some (.int 0)]) rfl ?_
                    refine rb_goto ?_
                    refine rn_step rfl ?_
                    refine rb_iload rfl ?_
                    refine rb_push ?_
                    refine rb_cge (fun h => absurd h (by decide)) (fun _ => ?_)
                    refine rb_iload rfl ?_
                    refine rb_push ?_
                    refine rb_cne (fun _ => ?_) (fun h => absurd (by decide) h)
                    refine rn_step rfl ?_
                    refine rb_iload rfl ?_
                    refine rb_ret rfl rfl
                  case h3 => exact (okA (okA (okA (okL.sI (okL.sI s1_ok _ _ _) _ _ _) (c := 86) (n := 5) (by decide) rfl (by decide) rfl) (c := 87) (n := 5) (by decide) rfl (by decide) rfl) (c := 88) (n := 5) (by decide) rfl (by decide) rfl)
                  case h4 => exact rfl
                ·
                  rcases ia_cut (c := 2) hla hha with ⟨hla, hha⟩ | ⟨hla, hha⟩
                  ·
                    obtain rfl : a = 1 := ia_one hla hha (by decide) (by decide)
                    apply p1_intro (v := 0)
                    case h1 =>
                      apply ex_X8_lay
                      refine rn_step rfl ?_
                      refine rb_iload rfl ?_
                      apply rb_callS1
                      case hcl => exact rfl
                      case hc =>
                        apply ex_X8_isSlot
                        refine rn_step rfl ?_
                        refine rb_iload rfl ?_
                        refine rb_push ?_
                        refine rb_push ?_
                        apply rb_callS3
                        case hcl => exact rfl
                        case hc =>
                          apply ex_X8_within
                          refine rn_step rfl ?_
                          refine rb_iload rfl ?_
                          refine rb_iload rfl ?_
                          refine rb_clt (fun h => absurd h (by decide)) (fun _ => ?_)
                          refine rb_iload rfl ?_
                          refine rb_iload rfl ?_
                          refine rb_cgt (fun h => absurd h (by decide)) (fun _ => ?_)
                          refine rb_push ?_
                          refine rb_goto ?_
                          refine rn_step rfl ?_
                          refine rb_ret rfl rfl
                        refine rb_ret rfl rfl
                      refine rb_ieq (fun h => absurd h (by decide)) (fun _ => ?_)
                      refine rb_iload rfl ?_
                      refine rb_push ?_
                      refine rb_push ?_
                      apply rb_callS3
                      case hcl => exact rfl
                      case hc =>
                        apply ex_X8_within
                        refine rn_step rfl ?_
                        refine rb_iload rfl ?_
                        refine rb_iload rfl ?_
                        refine rb_clt (fun h => absurd h (by decide)) (fun _ => ?_)
                        refine rb_iload rfl ?_
                        refine rb_iload rfl ?_
                        refine rb_cgt (fun h => absurd h (by decide)) (fun _ => ?_)
                        refine rb_push ?_
                        refine rb_goto ?_
                        refine rn_step rfl ?_
                        refine rb_ret rfl rfl
                      refine rb_ine (fun _ => ?_) (fun h => absurd (by decide) h)
                      refine rn_step rfl ?_
                      refine rb_iload rfl ?_
                      refine rb_push ?_
                      refine rb_cne (fun _ => ?_) (fun h => absurd (by decide) h)
                      refine rn_step rfl ?_
                      refine rb_iload rfl ?_
                      refine rb_push ?_
                      refine rb_cne (fun _ => ?_) (fun h => absurd (by decide) h)
                      refine rn_step rfl ?_
                      refine rb_iload rfl ?_
                      refine rb_push ?_
                      refine rb_cne (fun _ => ?_) (fun h => absurd (by decide) h)
                      refine rn_step rfl ?_
                      refine rb_aload rfl ?_
                      refine rb_getf (v := .ref 43) rfl ?_
                      refine rb_iload rfl ?_
                      refine rb_aaldR rfl (by decide) rfl ?_
                      refine rb_astore (lv' := [some (.ref 0), some (.int 1), some (.int 3), some (.int (c)), some (.ref 56), none]) rfl ?_
                      refine rb_aload rfl ?_
                      refine rb_getf (v := .int 0) rfl ?_
                      refine rb_istore (lv' := [some (.ref 0), some (.int 1), some (.int 3), some (.int (c)), some (.ref 56), some (.int 0)]) rfl ?_
                      refine rb_aload rfl ?_
                      refine rb_iload rfl ?_
                      refine rb_putI (pf_56_1 _ _) ?_
                      refine rb_iload rfl ?_
                      refine rb_push ?_
                      refine rb_cne (fun _ => ?_) (fun h => absurd (by decide) h)
                      refine rn_step rfl ?_
                      refine rb_iload rfl ?_
                      refine rb_push ?_
                      refine rb_cne (fun _ => ?_) (fun h => absurd (by decide) h)
                      refine rn_step rfl ?_
                      refine rb_iload rfl ?_
                      refine rb_push ?_
                      refine rb_cne (fun h => absurd (by decide) h) (fun _ => ?_)
                      refine rb_aload rfl ?_
                      refine rb_iload rfl ?_
                      refine rb_putI (pf_56_5 _ _) ?_
                      refine rb_goto ?_
                      refine rn_step rfl ?_
                      refine rb_iload rfl ?_
                      refine rb_ret rfl rfl
                    case h2 =>
                      apply ex_X9_lay
                      refine rn_step rfl ?_
                      refine rb_iload rfl ?_
                      apply rb_callS1
                      case hcl => exact rfl
                      case hc =>
                        apply ex_X9_isSlot
                        refine rn_step rfl ?_
                        refine rb_iload rfl ?_
                        refine rb_push ?_
                        refine rb_push ?_
                        apply rb_callS3
                        case hcl => exact rfl
                        case hc =>
                          apply ex_X9_in
                          refine rn_step rfl ?_
                          refine rb_iload rfl ?_
                          refine rb_iload rfl ?_
                          refine rb_clt (fun h => absurd h (by decide)) (fun _ => ?_)
                          refine rb_iload rfl ?_
                          refine rb_iload rfl ?_
                          refine rb_cgt (fun h => absurd h (by decide)) (fun _ => ?_)
                          refine rb_push ?_
                          refine rb_goto ?_
                          refine rn_step rfl ?_
                          refine rb_ret rfl rfl
                        refine rb_ret rfl rfl
                      refine rb_ieq (fun h => absurd h (by decide)) (fun _ => ?_)
                      refine rb_iload rfl ?_
                      refine rb_push ?_
                      refine rb_push ?_
                      apply rb_callS3
                      case hcl => exact rfl
                      case hc =>
                        apply ex_X9_in
                        refine rn_step rfl ?_
                        refine rb_iload rfl ?_
                        refine rb_iload rfl ?_
                        refine rb_clt (fun h => absurd h (by decide)) (fun _ => ?_)
                        refine rb_iload rfl ?_
                        refine rb_iload rfl ?_
                        refine rb_cgt (fun h => absurd h (by decide)) (fun _ => ?_)
                        refine rb_push ?_
                        refine rb_goto ?_
                        refine rn_step rfl ?_
                        refine rb_ret rfl rfl
                      refine rb_ieq (fun h => absurd h (by decide)) (fun _ => ?_)
                      refine rb_iload rfl ?_
                      refine rb_push ?_
                      refine rb_cne (fun _ => ?_) (fun h => absurd (by decide) h)
                      refine rn_step rfl ?_
                      refine rb_iload rfl ?_
                      refine rb_push ?_
                      refine rb_cne (fun _ => ?_) (fun h => absurd (by decide) h)
                      refine rn_step rfl ?_
                      refine rb_iload rfl ?_
                      refine rb_push ?_
                      refine rb_cne (fun _ => ?_) (fun h => absurd (by decide) h)
                      refine rn_step rfl ?_
                      refine rb_aload rfl ?_
                      refine rb_getf (v := .ref 86) rfl ?_
                      refine rb_iload rfl ?_
                      refine rb_iald rfl (by decide) (show _ = some (0) from rfl) ?_
                      refine rb_istore (lv' := [some (.ref 68), some (.int 1), some (.int 3), some (.int (c)), some (.int 0), none]) rfl ?_
                      refine rb_aload rfl ?_
                      refine rb_getf (v := .ref 86) rfl ?_
                      refine rb_iload rfl ?_
                      refine rb_iload rfl ?_
                      refine rb_iastL (xs' := [0, 3] ++ List.replicate 3 0) rfl (by decide) (ok_lt (okL.sI (okL.sI s1_ok _ _ _) _ _ _) (c := 86) (n := 5) (by decide) rfl (by decide) (by decide)) rfl (wa_86 _ _) ?_
                      refine rb_aload rfl ?_
                      refine rb_getf (v := .ref 87) rfl ?_
                      refine rb_iload rfl ?_
                      refine rb_iload rfl ?_
                      refine rb_push ?_
                      refine rb_cne (fun _ => ?_) (fun h => absurd (by decide) h)
                      refine rn_step rfl ?_
                      refine rb_iload rfl ?_
                      refine rb_push ?_
                      refine rb_cne (fun _ => ?_) (fun h => absurd (by decide) h)
                      refine rn_step rfl ?_
                      refine rb_iload rfl ?_
                      refine rb_goto ?_
                      refine rn_step rfl ?_
                      refine rb_iastL (xs' := [0, c] ++ List.replicate 3 0) rfl (by decide) (ok_lt (okA (okL.sI (okL.sI s1_ok _ _ _) _ _ _) (c := 86) (n := 5) (by decide) rfl (by decide) rfl) (c := 87) (n := 5) (by decide) rfl (by decide) (by decide)) rfl (wa_87 _ _) ?_
                      refine rb_aload rfl ?_
                      refine rb_getf (v := .ref 88) rfl ?_
                      refine rb_iload rfl ?_
                      refine rb_iload rfl ?_
                      refine rb_push ?_
                      refine rb_cne (fun _ => ?_) (fun h => absurd (by decide) h)
                      refine rn_step rfl ?_
                      refine rb_push ?_
                      refine rb_goto ?_
                      refine rn_step rfl ?_
                      refine rb_iastL (xs' := List.replicate 5 0) rfl (by decide) (ok_lt (okA (okA (okL.sI (okL.sI s1_ok _ _ _) _ _ _) (c := 86) (n := 5) (by decide) rfl (by decide) rfl) (c := 87) (n := 5) (by decide) rfl (by decide) rfl) (c := 88) (n := 5) (by decide) rfl (by decide) (by decide)) rfl (wa_88 _ _) ?_
                      refine rb_push ?_
                      refine rb_istore (lv' := [some (.ref 68), some (.int 1), some (.int 3), some (.int (c)), some (.int 0), some (.int 0)]) rfl ?_
                      refine rb_goto ?_
                      refine rn_step rfl ?_
                      refine rb_iload rfl ?_
                      refine rb_push ?_
                      refine rb_cge (fun h => absurd h (by decide)) (fun _ => ?_)
                      refine rb_iload rfl ?_
                      refine rb_push ?_
                      refine rb_cne (fun _ => ?_) (fun h => absurd (by decide) h)
                      refine rn_step rfl ?_
                      refine rb_iload rfl ?_
                      refine rb_ret rfl rfl
                    case h3 => exact (okA (okA (okA (okL.sI (okL.sI s1_ok _ _ _) _ _ _) (c := 86) (n := 5) (by decide) rfl (by decide) rfl) (c := 87) (n := 5) (by decide) rfl (by decide) rfl) (c := 88) (n := 5) (by decide) rfl (by decide) rfl)
                    case h4 => exact rfl
                  ·
                    rcases ia_cut (c := 3) hla hha with ⟨hla, hha⟩ | ⟨hla, hha⟩
                    ·
                      obtain rfl : a = 2 := ia_one hla hha (by decide) (by decide)
                      apply p1_intro (v := 0)
                      case h1 =>
                        apply ex_X8_lay
                        refine rn_step rfl ?_
                        refine rb_iload rfl ?_
                        apply rb_callS1
                        case hcl => exact rfl
                        case hc =>
                          apply ex_X8_isSlot
                          refine rn_step rfl ?_
                          refine rb_iload rfl ?_
                          refine rb_push ?_
                          refine rb_push ?_
                          apply rb_callS3
                          case hcl => exact rfl
                          case hc =>
                            apply ex_X8_within
                            refine rn_step rfl ?_
                            refine rb_iload rfl ?_
                            refine rb_iload rfl ?_
                            refine rb_clt (fun h => absurd h (by decide)) (fun _ => ?_)
                            refine rb_iload rfl ?_
                            refine rb_iload rfl ?_
                            refine rb_cgt (fun h => absurd h (by decide)) (fun _ => ?_)
                            refine rb_push ?_
                            refine rb_goto ?_
                            refine rn_step rfl ?_
                            refine rb_ret rfl rfl
                          refine rb_ret rfl rfl
                        refine rb_ieq (fun h => absurd h (by decide)) (fun _ => ?_)
                        refine rb_iload rfl ?_
                        refine rb_push ?_
                        refine rb_push ?_
                        apply rb_callS3
                        case hcl => exact rfl
                        case hc =>
                          apply ex_X8_within
                          refine rn_step rfl ?_
                          refine rb_iload rfl ?_
                          refine rb_iload rfl ?_
                          refine rb_clt (fun h => absurd h (by decide)) (fun _ => ?_)
                          refine rb_iload rfl ?_
                          refine rb_iload rfl ?_
                          refine rb_cgt (fun h => absurd h (by decide)) (fun _ => ?_)
                          refine rb_push ?_
                          refine rb_goto ?_
                          refine rn_step rfl ?_
                          refine rb_ret rfl rfl
                        refine rb_ine (fun _ => ?_) (fun h => absurd (by decide) h)
                        refine rn_step rfl ?_
                        refine rb_iload rfl ?_
                        refine rb_push ?_
                        refine rb_cne (fun _ => ?_) (fun h => absurd (by decide) h)
                        refine rn_step rfl ?_
                        refine rb_iload rfl ?_
                        refine rb_push ?_
                        refine rb_cne (fun _ => ?_) (fun h => absurd (by decide) h)
                        refine rn_step rfl ?_
                        refine rb_iload rfl ?_
                        refine rb_push ?_
                        refine rb_cne (fun _ => ?_) (fun h => absurd (by decide) h)
                        refine rn_step rfl ?_
                        refine rb_aload rfl ?_
                        refine rb_getf (v := .ref 43) rfl ?_
                        refine rb_iload rfl ?_
                        refine rb_aaldR rfl (by decide) rfl ?_
                        refine rb_astore (lv' := [some (.ref 0), some (.int 2), some (.int 3), some (.int (c)), some (.ref 59), none]) rfl ?_
                        refine rb_aload rfl ?_
                        refine rb_getf (v := .int 0) rfl ?_
                        refine rb_istore (lv' := [some (.ref 0), some (.int 2), some (.int 3), some (.int (c)), some (.ref 59), some (.int 0)]) rfl ?_
                        refine rb_aload rfl ?_
                        refine rb_iload rfl ?_
                        refine rb_putI (pf_59_1 _ _) ?_
                        refine rb_iload rfl ?_
                        refine rb_push ?_
                        refine rb_cne (fun _ => ?_) (fun h => absurd (by decide) h)
                        refine rn_step rfl ?_
                        refine rb_iload rfl ?_
                        refine rb_push ?_
                        refine rb_cne (fun _ => ?_) (fun h => absurd (by decide) h)
                        refine rn_step rfl ?_
                        refine rb_iload rfl ?_
                        refine rb_push ?_
                        refine rb_cne (fun h => absurd (by decide) h) (fun _ => ?_)
                        refine rb_aload rfl ?_
                        refine rb_iload rfl ?_
                        refine rb_putI (pf_59_5 _ _) ?_
                        refine rb_goto ?_
                        refine rn_step rfl ?_
                        refine rb_iload rfl ?_
                        refine rb_ret rfl rfl
                      case h2 =>
                        apply ex_X9_lay
                        refine rn_step rfl ?_
                        refine rb_iload rfl ?_
                        apply rb_callS1
                        case hcl => exact rfl
                        case hc =>
                          apply ex_X9_isSlot
                          refine rn_step rfl ?_
                          refine rb_iload rfl ?_
                          refine rb_push ?_
                          refine rb_push ?_
                          apply rb_callS3
                          case hcl => exact rfl
                          case hc =>
                            apply ex_X9_in
                            refine rn_step rfl ?_
                            refine rb_iload rfl ?_
                            refine rb_iload rfl ?_
                            refine rb_clt (fun h => absurd h (by decide)) (fun _ => ?_)
                            refine rb_iload rfl ?_
                            refine rb_iload rfl ?_
                            refine rb_cgt (fun h => absurd h (by decide)) (fun _ => ?_)
                            refine rb_push ?_
                            refine rb_goto ?_
                            refine rn_step rfl ?_
                            refine rb_ret rfl rfl
                          refine rb_ret rfl rfl
                        refine rb_ieq (fun h => absurd h (by decide)) (fun _ => ?_)
                        refine rb_iload rfl ?_
                        refine rb_push ?_
                        refine rb_push ?_
                        apply rb_callS3
                        case hcl => exact rfl
                        case hc =>
                          apply ex_X9_in
                          refine rn_step rfl ?_
                          refine rb_iload rfl ?_
                          refine rb_iload rfl ?_
                          refine rb_clt (fun h => absurd h (by decide)) (fun _ => ?_)
                          refine rb_iload rfl ?_
                          refine rb_iload rfl ?_
                          refine rb_cgt (fun h => absurd h (by decide)) (fun _ => ?_)
                          refine rb_push ?_
                          refine rb_goto ?_
                          refine rn_step rfl ?_
                          refine rb_ret rfl rfl
                        refine rb_ieq (fun h => absurd h (by decide)) (fun _ => ?_)
                        refine rb_iload rfl ?_
                        refine rb_push ?_
                        refine rb_cne (fun _ => ?_) (fun h => absurd (by decide) h)
                        refine rn_step rfl ?_
                        refine rb_iload rfl ?_
                        refine rb_push ?_
                        refine rb_cne (fun _ => ?_) (fun h => absurd (by decide) h)
                        refine rn_step rfl ?_
                        refine rb_iload rfl ?_
                        refine rb_push ?_
                        refine rb_cne (fun _ => ?_) (fun h => absurd (by decide) h)
                        refine rn_step rfl ?_
                        refine rb_aload rfl ?_
                        refine rb_getf (v := .ref 86) rfl ?_
                        refine rb_iload rfl ?_
                        refine rb_iald rfl (by decide) (show _ = some (0) from rfl) ?_
                        refine rb_istore (lv' := [some (.ref 68), some (.int 2), some (.int 3), some (.int (c)), some (.int 0), none]) rfl ?_
                        refine rb_aload rfl ?_
                        refine rb_getf (v := .ref 86) rfl ?_
                        refine rb_iload rfl ?_
                        refine rb_iload rfl ?_
                        refine rb_iastL (xs' := [0, 0, 3] ++ List.replicate 2 0) rfl (by decide) (ok_lt (okL.sI (okL.sI s1_ok _ _ _) _ _ _) (c := 86) (n := 5) (by decide) rfl (by decide) (by decide)) rfl (wa_86 _ _) ?_
                        refine rb_aload rfl ?_
                        refine rb_getf (v := .ref 87) rfl ?_
                        refine rb_iload rfl ?_
                        refine rb_iload rfl ?_
                        refine rb_push ?_
                        refine rb_cne (fun _ => ?_) (fun h => absurd (by decide) h)
                        refine rn_step rfl ?_
                        refine rb_iload rfl ?_
                        refine rb_push ?_
                        refine rb_cne (fun _ => ?_) (fun h => absurd (by decide) h)
                        refine rn_step rfl ?_
                        refine rb_iload rfl ?_
                        refine rb_goto ?_
                        refine rn_step rfl ?_
                        refine rb_iastL (xs' := [0, 0, c] ++ List.replicate 2 0) rfl (by decide) (ok_lt (okA (okL.sI (okL.sI s1_ok _ _ _) _ _ _) (c := 86) (n := 5) (by decide) rfl (by decide) rfl) (c := 87) (n := 5) (by decide) rfl (by decide) (by decide)) rfl (wa_87 _ _) ?_
                        refine rb_aload rfl ?_
                        refine rb_getf (v := .ref 88) rfl ?_
                        refine rb_iload rfl ?_
                        refine rb_iload rfl ?_
                        refine rb_push ?_
                        refine rb_cne (fun _ => ?_) (fun h => absurd (by decide) h)
                        refine rn_step rfl ?_
                        refine rb_push ?_
                        refine rb_goto ?_
                        refine rn_step rfl ?_
                        refine rb_iastL (xs' := List.replicate 5 0) rfl (by decide) (ok_lt (okA (okA (okL.sI (okL.sI s1_ok _ _ _) _ _ _) (c := 86) (n := 5) (by decide) rfl (by decide) rfl) (c := 87) (n := 5) (by decide) rfl (by decide) rfl) (c := 88) (n := 5) (by decide) rfl (by decide) (by decide)) rfl (wa_88 _ _) ?_
                        refine rb_push ?_
                        refine rb_istore (lv' := [some (.ref 68), some (.int 2), some (.int 3), some (.int (c)), some (.int 0), some (.int 0)]) rfl ?_
                        refine rb_goto ?_
                        refine rn_step rfl ?_
                        refine rb_iload rfl ?_
                        refine rb_push ?_
                        refine rb_cge (fun h => absurd h (by decide)) (fun _ => ?_)
                        refine rb_iload rfl ?_
                        refine rb_push ?_
                        refine rb_cne (fun _ => ?_) (fun h => absurd (by decide) h)
                        refine rn_step rfl ?_
                        refine rb_iload rfl ?_
                        refine rb_ret rfl rfl
                      case h3 => exact (okA (okA (okA (okL.sI (okL.sI s1_ok _ _ _) _ _ _) (c := 86) (n := 5) (by decide) rfl (by decide) rfl) (c := 87) (n := 5) (by decide) rfl (by decide) rfl) (c := 88) (n := 5) (by decide) rfl (by decide) rfl)
                      case h4 => exact rfl
                    ·
                      rcases ia_cut (c := 4) hla hha with ⟨hla, hha⟩ | ⟨hla, hha⟩
                      ·
                        obtain rfl : a = 3 := ia_one hla hha (by decide) (by decide)
                        apply p1_intro (v := 0)
                        case h1 =>
                          apply ex_X8_lay
                          refine rn_step rfl ?_
                          refine rb_iload rfl ?_
                          apply rb_callS1
                          case hcl => exact rfl
                          case hc =>
                            apply ex_X8_isSlot
                            refine rn_step rfl ?_
                            refine rb_iload rfl ?_
                            refine rb_push ?_
                            refine rb_push ?_
                            apply rb_callS3
                            case hcl => exact rfl
                            case hc =>
                              apply ex_X8_within
                              refine rn_step rfl ?_
                              refine rb_iload rfl ?_
                              refine rb_iload rfl ?_
                              refine rb_clt (fun h => absurd h (by decide)) (fun _ => ?_)
                              refine rb_iload rfl ?_
                              refine rb_iload rfl ?_
                              refine rb_cgt (fun h => absurd h (by decide)) (fun _ => ?_)
                              refine rb_push ?_
                              refine rb_goto ?_
                              refine rn_step rfl ?_
                              refine rb_ret rfl rfl
                            refine rb_ret rfl rfl
                          refine rb_ieq (fun h => absurd h (by decide)) (fun _ => ?_)
                          refine rb_iload rfl ?_
                          refine rb_push ?_
                          refine rb_push ?_
                          apply rb_callS3
                          case hcl => exact rfl
                          case hc =>
                            apply ex_X8_within
                            refine rn_step rfl ?_
                            refine rb_iload rfl ?_
                            refine rb_iload rfl ?_
                            refine rb_clt (fun h => absurd h (by decide)) (fun _ => ?_)
                            refine rb_iload rfl ?_
                            refine rb_iload rfl ?_
                            refine rb_cgt (fun h => absurd h (by decide)) (fun _ => ?_)
                            refine rb_push ?_
                            refine rb_goto ?_
                            refine rn_step rfl ?_
                            refine rb_ret rfl rfl
                          refine rb_ine (fun _ => ?_) (fun h => absurd (by decide) h)
                          refine rn_step rfl ?_
                          refine rb_iload rfl ?_
                          refine rb_push ?_
                          refine rb_cne (fun _ => ?_) (fun h => absurd (by decide) h)
                          refine rn_step rfl ?_
                          refine rb_iload rfl ?_
                          refine rb_push ?_
                          refine rb_cne (fun _ => ?_) (fun h => absurd (by decide) h)
                          refine rn_step rfl ?_
                          refine rb_iload rfl ?_
                          refine rb_push ?_
                          refine rb_cne (fun _ => ?_) (fun h => absurd (by decide) h)
                          refine rn_step rfl ?_
                          refine rb_aload rfl ?_
                          refine rb_getf (v := .ref 43) rfl ?_
                          refine rb_iload rfl ?_
                          refine rb_aaldR rfl (by decide) rfl ?_
                          refine rb_astore (lv' := [some (.ref 0), some (.int 3), some (.int 3), some (.int (c)), some (.ref 62), none]) rfl ?_
                          refine rb_aload rfl ?_
                          refine rb_getf (v := .int 0) rfl ?_
                          refine rb_istore (lv' := [some (.ref 0), some (.int 3), some (.int 3), some (.int (c)), some (.ref 62), some (.int 0)]) rfl ?_
                          refine rb_aload rfl ?_
                          refine rb_iload rfl ?_
                          refine rb_putI (pf_62_1 _ _) ?_
                          refine rb_iload rfl ?_
                          refine rb_push ?_
                          refine rb_cne (fun _ => ?_) (fun h => absurd (by decide) h)
                          refine rn_step rfl ?_
                          refine rb_iload rfl ?_
                          refine rb_push ?_
                          refine rb_cne (fun _ => ?_) (fun h => absurd (by decide) h)
                          refine rn_step rfl ?_
                          refine rb_iload rfl ?_
                          refine rb_push ?_
                          refine rb_cne (fun h => absurd (by decide) h) (fun _ => ?_)
                          refine rb_aload rfl ?_
                          refine rb_iload rfl ?_
                          refine rb_putI (pf_62_5 _ _) ?_
                          refine rb_goto ?_
                          refine rn_step rfl ?_
                          refine rb_iload rfl ?_
                          refine rb_ret rfl rfl
                        case h2 =>
                          apply ex_X9_lay
                          refine rn_step rfl ?_
                          refine rb_iload rfl ?_
                          apply rb_callS1
                          case hcl => exact rfl
                          case hc =>
                            apply ex_X9_isSlot
                            refine rn_step rfl ?_
                            refine rb_iload rfl ?_
                            refine rb_push ?_
                            refine rb_push ?_
                            apply rb_callS3
                            case hcl => exact rfl
                            case hc =>
                              apply ex_X9_in
                              refine rn_step rfl ?_
                              refine rb_iload rfl ?_
                              refine rb_iload rfl ?_
                              refine rb_clt (fun h => absurd h (by decide)) (fun _ => ?_)
                              refine rb_iload rfl ?_
                              refine rb_iload rfl ?_
                              refine rb_cgt (fun h => absurd h (by decide)) (fun _ => ?_)
                              refine rb_push ?_
                              refine rb_goto ?_
                              refine rn_step rfl ?_
                              refine rb_ret rfl rfl
                            refine rb_ret rfl rfl
                          refine rb_ieq (fun h => absurd h (by decide)) (fun _ => ?_)
                          refine rb_iload rfl ?_
                          refine rb_push ?_
                          refine rb_push ?_
                          apply rb_callS3
                          case hcl => exact rfl
                          case hc =>
                            apply ex_X9_in
                            refine rn_step rfl ?_
                            refine rb_iload rfl ?_
                            refine rb_iload rfl ?_
                            refine rb_clt (fun h => absurd h (by decide)) (fun _ => ?_)
                            refine rb_iload rfl ?_
                            refine rb_iload rfl ?_
                            refine rb_cgt (fun h => absurd h (by decide)) (fun _ => ?_)
                            refine rb_push ?_
                            refine rb_goto ?_
                            refine rn_step rfl ?_
                            refine rb_ret rfl rfl
                          refine rb_ieq (fun h => absurd h (by decide)) (fun _ => ?_)
                          refine rb_iload rfl ?_
                          refine rb_push ?_
                          refine rb_cne (fun _ => ?_) (fun h => absurd (by decide) h)
                          refine rn_step rfl ?_
                          refine rb_iload rfl ?_
                          refine rb_push ?_
                          refine rb_cne (fun _ => ?_) (fun h => absurd (by decide) h)
                          refine rn_step rfl ?_
                          refine rb_iload rfl ?_
                          refine rb_push ?_
                          refine rb_cne (fun _ => ?_) (fun h => absurd (by decide) h)
                          refine rn_step rfl ?_
                          refine rb_aload rfl ?_
                          refine rb_getf (v := .ref 86) rfl ?_
                          refine rb_iload rfl ?_
                          refine rb_iald rfl (by decide) (show _ = some (0) from rfl) ?_
                          refine rb_istore (lv' := [some (.ref 68), some (.int 3), some (.int 3), some (.int (c)), some (.int 0), none]) rfl ?_
                          refine rb_aload rfl ?_
                          refine rb_getf (v := .ref 86) rfl ?_
                          refine rb_iload rfl ?_
                          refine rb_iload rfl ?_
                          refine rb_iastL (xs' := [0, 0, 0, 3] ++ List.replicate 1 0) rfl (by decide) (ok_lt (okL.sI (okL.sI s1_ok _ _ _) _ _ _) (c := 86) (n := 5) (by decide) rfl (by decide) (by decide)) rfl (wa_86 _ _) ?_
                          refine rb_aload rfl ?_
                          refine rb_getf (v := .ref 87) rfl ?_
                          refine rb_iload rfl ?_
                          refine rb_iload rfl ?_
                          refine rb_push ?_
                          refine rb_cne (fun _ => ?_) (fun h => absurd (by decide) h)
                          refine rn_step rfl ?_
                          refine rb_iload rfl ?_
                          refine rb_push ?_
                          refine rb_cne (fun _ => ?_) (fun h => absurd (by decide) h)
                          refine rn_step rfl ?_
                          refine rb_iload rfl ?_
                          refine rb_goto ?_
                          refine rn_step rfl ?_
                          refine rb_iastL (xs' := [0, 0, 0, c] ++ List.replicate 1 0) rfl (by decide) (ok_lt (okA (okL.sI (okL.sI s1_ok _ _ _) _ _ _) (c := 86) (n := 5) (by decide) rfl (by decide) rfl) (c := 87) (n := 5) (by decide) rfl (by decide) (by decide)) rfl (wa_87 _ _) ?_
                          refine rb_aload rfl ?_
                          refine rb_getf (v := .ref 88) rfl ?_
                          refine rb_iload rfl ?_
                          refine rb_iload rfl ?_
                          refine rb_push ?_
                          refine rb_cne (fun _ => ?_) (fun h => absurd (by decide) h)
                          refine rn_step rfl ?_
                          refine rb_push ?_
                          refine rb_goto ?_
                          refine rn_step rfl ?_
                          refine rb_iastL (xs' := List.replicate 5 0) rfl (by decide) (ok_lt (okA (okA (okL.sI (okL.sI s1_ok _ _ _) _ _ _) (c := 86) (n := 5) (by decide) rfl (by decide) rfl) (c := 87) (n := 5) (by decide) rfl (by decide) rfl) (c := 88) (n := 5) (by decide) rfl (by decide) (by decide)) rfl (wa_88 _ _) ?_
                          refine rb_push ?_
                          refine rb_istore (lv' := [some (.ref 68), some (.int 3), some (.int 3), some (.int (c)), some (.int 0), some (.int 0)]) rfl ?_
                          refine rb_goto ?_
                          refine rn_step rfl ?_
                          refine rb_iload rfl ?_
                          refine rb_push ?_
                          refine rb_cge (fun h => absurd h (by decide)) (fun _ => ?_)
                          refine rb_iload rfl ?_
                          refine rb_push ?_
                          refine rb_cne (fun _ => ?_) (fun h => absurd (by decide) h)
                          refine rn_step rfl ?_
                          refine rb_iload rfl ?_
                          refine rb_ret rfl rfl
                        case h3 => exact (okA (okA (okA (okL.sI (okL.sI s1_ok _ _ _) _ _ _) (c := 86) (n := 5) (by decide) rfl (by decide) rfl) (c := 87) (n := 5) (by decide) rfl (by decide) rfl) (c := 88) (n := 5) (by decide) rfl (by decide) rfl)
                        case h4 => exact rfl
                      ·
                        obtain rfl : a = 4 := ia_one hla hha (by decide) (by decide)
                        apply p1_intro (v := 0)
                        case h1 =>
                          apply ex_X8_lay
                          refine rn_step rfl ?_
                          refine rb_iload rfl ?_
                          apply rb_callS1
                          case hcl => exact rfl
                          case hc =>
                            apply ex_X8_isSlot
                            refine rn_step rfl ?_
                            refine rb_iload rfl ?_
                            refine rb_push ?_
                            refine rb_push ?_
                            apply rb_callS3
                            case hcl => exact rfl
                            case hc =>
                              apply ex_X8_within
                              refine rn_step rfl ?_
                              refine rb_iload rfl ?_
                              refine rb_iload rfl ?_
                              refine rb_clt (fun h => absurd h (by decide)) (fun _ => ?_)
                              refine rb_iload rfl ?_
                              refine rb_iload rfl ?_
                              refine rb_cgt (fun h => absurd h (by decide)) (fun _ => ?_)
                              refine rb_push ?_
                              refine rb_goto ?_
                              refine rn_step rfl ?_
                              refine rb_ret rfl rfl
                            refine rb_ret rfl rfl
                          refine rb_ieq (fun h => absurd h (by decide)) (fun _ => ?_)
                          refine rb_iload rfl ?_
                          refine rb_push ?_
                          refine rb_push ?_
                          apply rb_callS3
                          case hcl => exact rfl
                          case hc =>
                            apply ex_X8_within
                            refine rn_step rfl ?_
                            refine rb_iload rfl ?_
                            refine rb_iload rfl ?_
                            refine rb_clt (fun h => absurd h (by decide)) (fun _ => ?_)
                            refine rb_iload rfl ?_
                            refine rb_iload rfl ?_
                            refine rb_cgt (fun h => absurd h (by decide)) (fun _ => ?_)
                            refine rb_push ?_
                            refine rb_goto ?_
                            refine rn_step rfl ?_
                            refine rb_ret rfl rfl
                          refine rb_ine (fun _ => ?_) (fun h => absurd (by decide) h)
                          refine rn_step rfl ?_
                          refine rb_iload rfl ?_
                          refine rb_push ?_
                          refine rb_cne (fun _ => ?_) (fun h => absurd (by decide) h)
                          refine rn_step rfl ?_
                          refine rb_iload rfl ?_
                          refine rb_push ?_
                          refine rb_cne (fun _ => ?_) (fun h => absurd (by decide) h)
                          refine rn_step rfl ?_
                          refine rb_iload rfl ?_
                          refine rb_push ?_
                          refine rb_cne (fun _ => ?_) (fun h => absurd (by decide) h)
                          refine rn_step rfl ?_
                          refine rb_aload rfl ?_
                          refine rb_getf (v := .ref 43) rfl ?_
                          refine rb_iload rfl ?_
                          refine rb_aaldR rfl (by decide) rfl ?_
                          refine rb_astore (lv' := [some (.ref 0), some (.int 4), some (.int 3), some (.int (c)), some (.ref 65), none]) rfl ?_
                          refine rb_aload rfl ?_
                          refine rb_getf (v := .int 0) rfl ?_
                          refine rb_istore (lv' := [some (.ref 0), some (.int 4), some (.int 3), some (.int (c)), some (.ref 65), some (.int 0)]) rfl ?_
                          refine rb_aload rfl ?_
                          refine rb_iload rfl ?_
                          refine rb_putI (pf_65_1 _ _) ?_
                          refine rb_iload rfl ?_
                          refine rb_push ?_
                          refine rb_cne (fun _ => ?_) (fun h => absurd (by decide) h)
                          refine rn_step rfl ?_
                          refine rb_iload rfl ?_
                          refine rb_push ?_
                          refine rb_cne (fun _ => ?_) (fun h => absurd (by decide) h)
                          refine rn_step rfl ?_
                          refine rb_iload rfl ?_
                          refine rb_push ?_
                          refine rb_cne (fun h => absurd (by decide) h) (fun _ => ?_)
                          refine rb_aload rfl ?_
                          refine rb_iload rfl ?_
                          refine rb_putI (pf_65_5 _ _) ?_
                          refine rb_goto ?_
                          refine rn_step rfl ?_
                          refine rb_iload rfl ?_
                          refine rb_ret rfl rfl
                        case h2 =>
                          apply ex_X9_lay
                          refine rn_step rfl ?_
                          refine rb_iload rfl ?_
                          apply rb_callS1
                          case hcl => exact rfl
                          case hc =>
                            apply ex_X9_isSlot
                            refine rn_step rfl ?_
                            refine rb_iload rfl ?_
                            refine rb_push ?_
                            refine rb_push ?_
                            apply rb_callS3
                            case hcl => exact rfl
                            case hc =>
                              apply ex_X9_in
                              refine rn_step rfl ?_
                              refine rb_iload rfl ?_
                              refine rb_iload rfl ?_
                              refine rb_clt (fun h => absurd h (by decide)) (fun _ => ?_)
                              refine rb_iload rfl ?_
                              refine rb_iload rfl ?_
                              refine rb_cgt (fun h => absurd h (by decide)) (fun _ => ?_)
                              refine rb_push ?_
                              refine rb_goto ?_
                              refine rn_step rfl ?_
                              refine rb_ret rfl rfl
                            refine rb_ret rfl rfl
                          refine rb_ieq (fun h => absurd h (by decide)) (fun _ => ?_)
                          refine rb_iload rfl ?_
                          refine rb_push ?_
                          refine rb_push ?_
                          apply rb_callS3
                          case hcl => exact rfl
                          case hc =>
                            apply ex_X9_in
                            refine rn_step rfl ?_
                            refine rb_iload rfl ?_
                            refine rb_iload rfl ?_
                            refine rb_clt (fun h => absurd h (by decide)) (fun _ => ?_)
                            refine rb_iload rfl ?_
                            refine rb_iload rfl ?_
                            refine rb_cgt (fun h => absurd h (by decide)) (fun _ => ?_)
                            refine rb_push ?_
                            refine rb_goto ?_
                            refine rn_step rfl ?_
                            refine rb_ret rfl rfl
                          refine rb_ieq (fun h => absurd h (by decide)) (fun _ => ?_)
                          refine rb_iload rfl ?_
                          refine rb_push ?_
                          refine rb_cne (fun _ => ?_) (fun h => absurd (by decide) h)
                          refine rn_step rfl ?_
                          refine rb_iload rfl ?_
                          refine rb_push ?_
                          refine rb_cne (fun _ => ?_) (fun h => absurd (by decide) h)
                          refine rn_step rfl ?_
                          refine rb_iload rfl ?_
                          refine rb_push ?_
                          refine rb_cne (fun _ => ?_) (fun h => absurd (by decide) h)
                          refine rn_step rfl ?_
                          refine rb_aload rfl ?_
                          refine rb_getf (v := .ref 86) rfl ?_
                          refine rb_iload rfl ?_
                          refine rb_iald rfl (by decide) (show _ = some (0) from rfl) ?_
                          refine rb_istore (lv' := [some (.ref 68), some (.int 4), some (.int 3), some (.int (c)), some (.int 0), none]) rfl ?_
                          refine rb_aload rfl ?_
                          refine rb_getf (v := .ref 86) rfl ?_
                          refine rb_iload rfl ?_
                          refine rb_iload rfl ?_
                          refine rb_iastL (xs' := [0, 0, 0, 0, 3]) rfl (by decide) (ok_lt (okL.sI (okL.sI s1_ok _ _ _) _ _ _) (c := 86) (n := 5) (by decide) rfl (by decide) (by decide)) rfl (wa_86 _ _) ?_
                          refine rb_aload rfl ?_
                          refine rb_getf (v := .ref 87) rfl ?_
                          refine rb_iload rfl ?_
                          refine rb_iload rfl ?_
                          refine rb_push ?_
                          refine rb_cne (fun _ => ?_) (fun h => absurd (by decide) h)
                          refine rn_step rfl ?_
                          refine rb_iload rfl ?_
                          refine rb_push ?_
                          refine rb_cne (fun _ => ?_) (fun h => absurd (by decide) h)
                          refine rn_step rfl ?_
                          refine rb_iload rfl ?_
                          refine rb_goto ?_
                          refine rn_step rfl ?_
                          refine rb_iastL (xs' := [0, 0, 0, 0, c]) rfl (by decide) (ok_lt (okA (okL.sI (okL.sI s1_ok _ _ _) _ _ _) (c := 86) (n := 5) (by decide) rfl (by decide) rfl) (c := 87) (n := 5) (by decide) rfl (by decide) (by decide)) rfl (wa_87 _ _) ?_
                          refine rb_aload rfl ?_
                          refine rb_getf (v := .ref 88) rfl ?_
                          refine rb_iload rfl ?_
                          refine rb_iload rfl ?_
                          refine rb_push ?_
                          refine rb_cne (fun _ => ?_) (fun h => absurd (by decide) h)
                          refine rn_step rfl ?_
                          refine rb_push ?_
                          refine rb_goto ?_
                          refine rn_step rfl ?_
                          refine rb_iastL (xs' := List.replicate 5 0) rfl (by decide) (ok_lt (okA (okA (okL.sI (okL.sI s1_ok _ _ _) _ _ _) (c := 86) (n := 5) (by decide) rfl (by decide) rfl) (c := 87) (n := 5) (by decide) rfl (by decide) rfl) (c := 88) (n := 5) (by decide) rfl (by decide) (by decide)) rfl (wa_88 _ _) ?_
                          refine rb_push ?_
                          refine rb_istore (lv' := [some (.ref 68), some (.int 4), some (.int 3), some (.int (c)), some (.int 0), some (.int 0)]) rfl ?_
                          refine rb_goto ?_
                          refine rn_step rfl ?_
                          refine rb_iload rfl ?_
                          refine rb_push ?_
                          refine rb_cge (fun h => absurd h (by decide)) (fun _ => ?_)
                          refine rb_iload rfl ?_
                          refine rb_push ?_
                          refine rb_cne (fun _ => ?_) (fun h => absurd (by decide) h)
                          refine rn_step rfl ?_
                          refine rb_iload rfl ?_
                          refine rb_ret rfl rfl
                        case h3 => exact (okA (okA (okA (okL.sI (okL.sI s1_ok _ _ _) _ _ _) (c := 86) (n := 5) (by decide) rfl (by decide) rfl) (c := 87) (n := 5) (by decide) rfl (by decide) rfl) (c := 88) (n := 5) (by decide) rfl (by decide) rfl)
                        case h4 => exact rfl
        ·
          apply p1_intro (v := (-1000000001))
          case h1 =>
            apply ex_X8_lay
            refine rn_step rfl ?_
            refine rb_iload rfl ?_
            apply rb_callS1
            case hcl => exact rfl
            case hc =>
              apply ex_X8_isSlot
              refine rn_step rfl ?_
              refine rb_iload rfl ?_
              refine rb_push ?_
              refine rb_push ?_
              apply rb_callS3
              case hcl => exact rfl
              case hc =>
                apply ex_X8_within
                refine rn_step rfl ?_
                refine rb_iload rfl ?_
                refine rb_iload rfl ?_
                refine rb_clt (fun h => absurd h (ia_nlt hla (by decide))) (fun _ => ?_)
                refine rb_iload rfl ?_
                refine rb_iload rfl ?_
                refine rb_cgt (fun h => absurd h (ia_ngt hha (by decide))) (fun _ => ?_)
                refine rb_push ?_
                refine rb_goto ?_
                refine rn_step rfl ?_
                refine rb_ret rfl rfl
              refine rb_ret rfl rfl
            refine rb_ieq (fun h => absurd h (by decide)) (fun _ => ?_)
            refine rb_iload rfl ?_
            refine rb_push ?_
            refine rb_push ?_
            apply rb_callS3
            case hcl => exact rfl
            case hc =>
              apply ex_X8_within
              refine rn_step rfl ?_
              refine rb_iload rfl ?_
              refine rb_iload rfl ?_
              refine rb_clt (fun h => absurd h (ia_nlt hlb (by decide))) (fun _ => ?_)
              refine rb_iload rfl ?_
              refine rb_iload rfl ?_
              refine rb_cgt (fun _ => ?_) (fun h => absurd (ia_gt hlb (by decide)) h)
              refine rn_step rfl ?_
              refine rb_push ?_
              refine rb_goto ?_
              refine rn_step rfl ?_
              refine rb_ret rfl rfl
            refine rb_ine (fun h => absurd (by decide) h) (fun _ => ?_)
            refine rb_goto ?_
            refine rn_step rfl ?_
            refine rb_push ?_
            refine rb_ret rfl rfl
          case h2 =>
            apply ex_X9_lay
            refine rn_step rfl ?_
            refine rb_iload rfl ?_
            apply rb_callS1
            case hcl => exact rfl
            case hc =>
              apply ex_X9_isSlot
              refine rn_step rfl ?_
              refine rb_iload rfl ?_
              refine rb_push ?_
              refine rb_push ?_
              apply rb_callS3
              case hcl => exact rfl
              case hc =>
                apply ex_X9_in
                refine rn_step rfl ?_
                refine rb_iload rfl ?_
                refine rb_iload rfl ?_
                refine rb_clt (fun h => absurd h (ia_nlt hla (by decide))) (fun _ => ?_)
                refine rb_iload rfl ?_
                refine rb_iload rfl ?_
                refine rb_cgt (fun h => absurd h (ia_ngt hha (by decide))) (fun _ => ?_)
                refine rb_push ?_
                refine rb_goto ?_
                refine rn_step rfl ?_
                refine rb_ret rfl rfl
              refine rb_ret rfl rfl
            refine rb_ieq (fun h => absurd h (by decide)) (fun _ => ?_)
            refine rb_iload rfl ?_
            refine rb_push ?_
            refine rb_push ?_
            apply rb_callS3
            case hcl => exact rfl
            case hc =>
              apply ex_X9_in
              refine rn_step rfl ?_
              refine rb_iload rfl ?_
              refine rb_iload rfl ?_
              refine rb_clt (fun h => absurd h (ia_nlt hlb (by decide))) (fun _ => ?_)
              refine rb_iload rfl ?_
              refine rb_iload rfl ?_
              refine rb_cgt (fun _ => ?_) (fun h => absurd (ia_gt hlb (by decide)) h)
              refine rn_step rfl ?_
              refine rb_push ?_
              refine rb_goto ?_
              refine rn_step rfl ?_
              refine rb_ret rfl rfl
            refine rb_ieq (fun _ => ?_) (fun h => absurd (by decide) h)
            refine rn_step rfl ?_
            refine rb_push ?_
            refine rb_ret rfl rfl
          case h3 => exact s1_ok
          case h4 => exact rfl
    ·
      apply p1_intro (v := (-1000000001))
      case h1 =>
        apply ex_X8_lay
        refine rn_step rfl ?_
        refine rb_iload rfl ?_
        apply rb_callS1
        case hcl => exact rfl
        case hc =>
          apply ex_X8_isSlot
          refine rn_step rfl ?_
          refine rb_iload rfl ?_
          refine rb_push ?_
          refine rb_push ?_
          apply rb_callS3
          case hcl => exact rfl
          case hc =>
            apply ex_X8_within
            refine rn_step rfl ?_
            refine rb_iload rfl ?_
            refine rb_iload rfl ?_
            refine rb_clt (fun h => absurd h (ia_nlt hla (by decide))) (fun _ => ?_)
            refine rb_iload rfl ?_
            refine rb_iload rfl ?_
            refine rb_cgt (fun _ => ?_) (fun h => absurd (ia_gt hla (by decide)) h)
            refine rn_step rfl ?_
            refine rb_push ?_
            refine rb_goto ?_
            refine rn_step rfl ?_
            refine rb_ret rfl rfl
          refine rb_ret rfl rfl
        refine rb_ieq (fun _ => ?_) (fun h => absurd (by decide) h)
        refine rn_step rfl ?_
        refine rb_push ?_
        refine rb_ret rfl rfl
      case h2 =>
        apply ex_X9_lay
        refine rn_step rfl ?_
        refine rb_iload rfl ?_
        apply rb_callS1
        case hcl => exact rfl
        case hc =>
          apply ex_X9_isSlot
          refine rn_step rfl ?_
          refine rb_iload rfl ?_
          refine rb_push ?_
          refine rb_push ?_
          apply rb_callS3
          case hcl => exact rfl
          case hc =>
            apply ex_X9_in
            refine rn_step rfl ?_
            refine rb_iload rfl ?_
            refine rb_iload rfl ?_
            refine rb_clt (fun h => absurd h (ia_nlt hla (by decide))) (fun _ => ?_)
            refine rb_iload rfl ?_
            refine rb_iload rfl ?_
            refine rb_cgt (fun _ => ?_) (fun h => absurd (ia_gt hla (by decide)) h)
            refine rn_step rfl ?_
            refine rb_push ?_
            refine rb_goto ?_
            refine rn_step rfl ?_
            refine rb_ret rfl rfl
          refine rb_ret rfl rfl
        refine rb_ieq (fun _ => ?_) (fun h => absurd (by decide) h)
        refine rn_step rfl ?_
        refine rb_push ?_
        refine rb_ret rfl rfl
      case h3 => exact s1_ok
      case h4 => exact rfl
