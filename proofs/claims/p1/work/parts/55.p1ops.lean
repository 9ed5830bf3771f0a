set_option maxRecDepth 1000000 in
set_option maxHeartbeats 40000000 in
theorem p1_sheet (a b c : Int32) : P1 105 208 [.int a, .int b, .int c] := by
  have hla : -2147483648 ≤ a.toInt := ia_lo a
  have hha : a.toInt ≤ 2147483647 := ia_hi a
  have hlb : -2147483648 ≤ b.toInt := ia_lo b
  have hhb : b.toInt ≤ 2147483647 := ia_hi b
  have hlc : -2147483648 ≤ c.toInt := ia_lo c
  have hhc : c.toInt ≤ 2147483647 := ia_hi c
  rcases ia_cut (c := 0) hla hha with ⟨hla, hha⟩ | ⟨hla, hha⟩
  ·
    apply p1_intro (v := (-1000000001))
    case h1 =>
      apply ex_X8_sheet
      refine rn_step rfl ?_
      refine rb_iload rfl ?_
      apply rb_callS1
      case hcl => exact rfl
      case hc =>
        apply ex_X8_isSheet
        refine rn_step rfl ?_
        refine rb_iload rfl ?_
        refine rb_push ?_
        refine rb_push ?_
        apply rb_callS3
        case hcl => exact rfl
        case hc =>
          apply ex_X8_within
          refine rn_step rfl ?_
          refine rb_iload rfl ?_
          refine rb_iload rfl ?_
          refine rb_clt (fun _ => ?_) (fun h => absurd (ia_lt hha (by decide)) h)
          refine rn_step rfl ?_
          refine rb_push ?_
          refine rb_goto ?_
          refine rn_step rfl ?_
          refine rb_ret rfl rfl
        refine rb_ret rfl rfl
      refine rb_ieq (fun _ => ?_) (fun h => absurd (by decide) h)
      refine rn_step rfl ?_
      refine rb_push ?_
      refine rb_ret rfl rfl
    case h2 =>
      apply ex_X9_sheet
      refine rn_step rfl ?_
      refine rb_iload rfl ?_
      apply rb_callS1
      case hcl => exact rfl
      case hc =>
        apply ex_X9_isSheet
        refine rn_step rfl ?_
        refine rb_iload rfl ?_
        refine rb_push ?_
        refine rb_push ?_
        apply rb_callS3
        case hcl => exact rfl
        case hc =>
          apply ex_X9_in
          refine rn_step rfl ?_
          refine rb_iload rfl ?_
          refine rb_iload rfl ?_
          refine rb_clt (fun _ => ?_) (fun h => absurd (ia_lt hha (by decide)) h)
          refine rn_step rfl ?_
          refine rb_push ?_
          refine rb_goto ?_
          refine rn_step rfl ?_
          refine rb_ret rfl rfl
        refine rb_ret rfl rfl
      refine rb_ieq (fun _ => ?_) (fun h => absurd (by decide) h)
      refine rn_step rfl ?_
      refine rb_push ?_
      refine rb_ret rfl rfl
    case h3 => exact s1_ok
    case h4 => exact rfl
  ·
    rcases ia_cut (c := 4) hla hha with ⟨hla, hha⟩ | ⟨hla, hha⟩
    ·
      rcases ia_cut (c := (-1)) hlb hhb with ⟨hlb, hhb⟩ | ⟨hlb, hhb⟩
      ·
        apply p1_intro (v := (-1000000001))
        case h1 =>
          apply ex_X8_sheet
          refine rn_step rfl ?_
          refine rb_iload rfl ?_
          apply rb_callS1
          case hcl => exact rfl
          case hc =>
            apply ex_X8_isSheet
            refine rn_step rfl ?_
            refine rb_iload rfl ?_
            refine rb_push ?_
            refine rb_push ?_
            apply rb_callS3
            case hcl => exact rfl
            case hc =>
              apply ex_X8_within
              refine rn_step rfl ?_
              refine rb_iload rfl ?_
              refine rb_iload rfl ?_
              refine rb_clt (fun h => absurd h (ia_nlt hla (by decide))) (fun _ => ?_)
              refine rb_iload rfl ?_
              refine rb_iload rfl ?_
              refine rb_cgt (fun h => absurd h (ia_ngt hha (by decide))) (fun _ => ?_)
              refine rb_push ?_
              refine rb_goto ?_
              refine rn_step rfl ?_
              refine rb_ret rfl rfl
            refine rb_ret rfl rfl
          refine rb_ieq (fun h => absurd h (by decide)) (fun _ => ?_)
          refine rb_iload rfl ?_
          refine rb_push ?_
          refine rb_push ?_
          apply rb_callS3
          case hcl => exact rfl
          case hc =>
            apply ex_X8_within
            refine rn_step rfl ?_
            refine rb_iload rfl ?_
            refine rb_iload rfl ?_
            refine rb_clt (fun _ => ?_) (fun h => absurd (ia_lt hhb (by decide)) h)
            refine rn_step rfl ?_
            refine rb_push ?_
            refine rb_goto ?_
            refine rn_step rfl ?_
            refine rb_ret rfl rfl
          refine rb_ine (fun h => absurd (by decide) h) (fun _ => ?_)
          refine rb_goto ?_
          refine rn_step rfl ?_
          refine rb_push ?_
          refine rb_ret rfl rfl
        case h2 =>
          apply ex_X9_sheet
          refine rn_step rfl ?_
          refine rb_iload rfl ?_
          apply rb_callS1
          case hcl => exact rfl
          case hc =>
            apply ex_X9_isSheet
            refine rn_step rfl ?_
            refine rb_iload rfl ?_
            refine rb_push ?_
            refine rb_push ?_
            apply rb_callS3
            case hcl => exact rfl
            case hc =>
              apply ex_X9_in
              refine rn_step rfl ?_
              refine rb_iload rfl ?_
              refine rb_iload rfl ?_
              refine rb_clt (fun h => absurd h (ia_nlt hla (by decide))) (fun _ => ?_)
              refine rb_iload rfl ?_
              refine rb_iload rfl ?_
              refine rb_cgt (fun h => absurd h (ia_ngt hha (by decide))) (fun _ => ?_)
              refine rb_push ?_
              refine rb_goto ?_
              refine rn_step rfl ?_
              refine rb_ret rfl rfl
            refine rb_ret rfl rfl
          refine rb_ieq (fun h => absurd h (by decide)) (fun _ => ?_)
          refine rb_iload rfl ?_
          refine rb_push ?_
          refine rb_push ?_
          apply rb_callS3
          case hcl => exact rfl
          case hc =>
            apply ex_X9_in
            refine rn_step rfl ?_
            refine rb_iload rfl ?_
            refine rb_iload rfl ?_
            refine rb_clt (fun _ => ?_) (fun h => absurd (ia_lt hhb (by decide)) h)
            refine rn_step rfl ?_
            refine rb_push ?_
            refine rb_goto ?_
            refine rn_step rfl ?_
            refine rb_ret rfl rfl
          refine rb_ieq (fun _ => ?_) (fun h => absurd (by decide) h)
          refine rn_step rfl ?_
          refine rb_push ?_
          refine rb_ret rfl rfl
        case h3 => exact s1_ok
        case h4 => exact rfl
      ·
        rcases ia_cut (c := 2) hlb hhb with ⟨hlb, hhb⟩ | ⟨hlb, hhb⟩
        ·
          rcases ia_cut (c := 0) hlb hhb with ⟨hlb, hhb⟩ | ⟨hlb, hhb⟩
          ·
            obtain rfl : b = (-1) := ia_one hlb hhb (by decide) (by decide)
            rcases ia_cut (c := 1) hla hha with ⟨hla, hha⟩ | ⟨hla, hha⟩
            ·
              obtain rfl : a = 0 := ia_one hla hha (by decide) (by decide)
              apply p1_intro (v := 0)
              case h1 =>
                apply ex_X8_sheet
                refine rn_step rfl ?_
                refine rb_iload rfl ?_
                apply rb_callS1
                case hcl => exact rfl
                case hc =>
                  apply ex_X8_isSheet
                  refine rn_step rfl ?_
                  refine rb_iload rfl ?_
                  refine rb_push ?_
                  refine rb_push ?_
                  apply rb_callS3
                  case hcl => exact rfl
                  case hc =>
                    apply ex_X8_within
                    refine rn_step rfl ?_
                    refine rb_iload rfl ?_
                    refine rb_iload rfl ?_
                    refine rb_clt (fun h => absurd h (by decide)) (fun _ => ?_)
                    refine rb_iload rfl ?_
                    refine rb_iload rfl ?_
                    refine rb_cgt (fun h => absurd h (by decide)) (fun _ => ?_)
                    refine rb_push ?_
                    refine rb_goto ?_
                    refine rn_step rfl ?_
                    refine rb_ret rfl rfl
                  refine rb_ret rfl rfl
                refine rb_ieq (fun h => absurd h (by decide)) (fun _ => ?_)
                refine rb_iload rfl ?_
                refine rb_push ?_
                refine rb_push ?_
                apply rb_callS3
                case hcl => exact rfl
                case hc =>
                  apply ex_X8_within
                  refine rn_step rfl ?_
                  refine rb_iload rfl ?_
                  refine rb_iload rfl ?_
                  refine rb_clt (fun h => absurd h (by decide)) (fun _ => ?_)
                  refine rb_iload rfl ?_
                  refine rb_iload rfl ?_
                  refine rb_cgt (fun h => absurd h (by decide)) (fun _ => ?_)
                  refine rb_push ?_
                  refine rb_goto ?_
                  refine rn_step rfl ?_
                  refine rb_ret rfl rfl
                refine rb_ine (fun _ => ?_) (fun h => absurd (by decide) h)
                refine rn_step rfl ?_
                refine rb_iload rfl ?_
                refine rb_push ?_
                refine rb_cne (fun h => absurd (by decide) h) (fun _ => ?_)
                refine rb_aload rfl ?_
                refine rb_getf (v := .ref 42) rfl ?_
                refine rb_iload rfl ?_
                refine rb_aaldR rfl (by decide) rfl ?_
                refine rb_push ?_
                refine rb_push ?_
                apply rb_callV2v
                case hb => exact rfl
                case hcl => exact rfl
                case hc =>
                  apply ex_X2_become
                  refine rn_step rfl ?_
                  refine rb_aload rfl ?_
                  refine rb_iload rfl ?_
                  refine rb_putI (pf_45_1 _ _) ?_
                  refine rb_aload rfl ?_
                  refine rb_iload rfl ?_
                  refine rb_putI (pf_45_2 _ _) ?_
                  refine rb_aload rfl ?_
                  refine rb_getf (v := .ref 46) rfl ?_
                  refine rb_push ?_
                  apply rb_callS2v
                  case hcl => exact rfl
                  case hc =>
                    apply ex_J7_fill_53178
                    refine rn_step rfl ?_
                    refine rb_push ?_
                    refine rb_istore (lv' := [some (.ref 46), some (.int 0), some (.int 0), none]) rfl ?_
                    refine rb_aload rfl ?_
                    refine rb_alenL (z := 24) rfl rfl ?_
                    refine rb_istore (lv' := [some (.ref 46), some (.int 0), some (.int 0), some (.int 24)]) rfl ?_
                    refine rb_goto ?_
                    refine rn_step rfl ?_
                    refine rb_iload rfl ?_
                    refine rb_iload rfl ?_
                    refine rb_cge (fun h => absurd h (by decide)) (fun _ => ?_)
                    refine rb_aload rfl ?_
                    refine rb_iload rfl ?_
                    refine rb_iload rfl ?_
                    refine rb_iast rfl (by decide) (ok_lt (okL.sI (okL.sI s1_ok _ _ _) _ _ _) (c := 46) (n := 24) (by decide) rfl (by decide) (by decide)) (wa_46 _ _) ?_
                    refine rb_iinc (lv' := [some (.ref 46), some (.int 0), some (.int 1), some (.int 24)]) rfl rfl ?_
                    refine rb_goto ?_
                    refine rn_step rfl ?_
                    refine rb_iload rfl ?_
                    refine rb_iload rfl ?_
                    refine rb_cge (fun h => absurd h (by decide)) (fun _ => ?_)
                    refine rb_aload rfl ?_
                    refine rb_iload rfl ?_
                    refine rb_iload rfl ?_
                    refine rb_iast rfl (by decide) (ok_lt (okL.sA (okL.sI (okL.sI s1_ok _ _ _) _ _ _) _ (List.length_set ..)) (c := 46) (n := 24) (by decide) rfl (by decide) (by decide)) (wa_46 _ _) ?_
                    refine rb_iinc (lv' := [some (.ref 46), some (.int 0), some (.int 2), some (.int 24)]) rfl rfl ?_
                    refine rb_goto ?_
                    refine rn_step rfl ?_
                    refine rb_iload rfl ?_
                    refine rb_iload rfl ?_
                    refine rb_cge (fun h => absurd h (by decide)) (fun _ => ?_)
                    refine rb_aload rfl ?_
                    refine rb_iload rfl ?_
                    refine rb_iload rfl ?_
                    refine rb_iast rfl (by decide) (ok_lt (okL.sA (okL.sA (okL.sI (okL.sI s1_ok _ _ _) _ _ _) _ (List.length_set ..)) _ (List.length_set ..)) (c := 46) (n := 24) (by decide) rfl (by decide) (by decide)) (wa_46 _ _) ?_
                    refine rb_iinc (lv' := [some (.ref 46), some (.int 0), some (.int 3), some (.int 24)]) rfl rfl ?_
                    refine rb_goto ?_
                    refine rn_step rfl ?_
                    refine rb_iload rfl ?_
                    refine rb_iload rfl ?_
                    refine rb_cge (fun h => absurd h (by decide)) (fun _ => ?_)
                    refine rb_aload rfl ?_
                    refine rb_iload rfl ?_
                    refine rb_iload rfl ?_
                    refine rb_iast rfl (by decide) (ok_lt (okL.sA (okL.sA (okL.sA (okL.sI (okL.sI s1_ok _ _ _) _ _ _) _ (List.length_set ..)) _ (List.length_set ..)) _ (List.length_set ..)) (c := 46) (n := 24) (by decide) rfl (by decide) (by decide)) (wa_46 _ _) ?_
                    refine rb_iinc (lv' := [some (.ref 46), some (.int 0), some (.int 4), some (.int 24)]) rfl rfl ?_
                    refine rb_goto ?_
                    refine rn_step rfl ?_
                    refine rb_iload rfl ?_
                    refine rb_iload rfl ?_
                    refine rb_cge (fun h => absurd h (by decide)) (fun _ => ?_)
                    refine rb_aload rfl ?_
                    refine rb_iload rfl ?_
                    refine rb_iload rfl ?_
                    refine rb_iast rfl (by decide) (ok_lt (okL.sA (okL.sA (okL.sA (okL.sA (okL.sI (okL.sI s1_ok _ _ _) _ _ _) _ (List.length_set ..)) _ (List.length_set ..)) _ (List.length_set ..)) _ (List.length_set ..)) (c := 46) (n := 24) (by decide) rfl (by decide) (by decide)) (wa_46 _ _) ?_
                    refine rb_iinc (lv' := [some (.ref 46), some (.int 0), some (.int 5), some (.int 24)]) rfl rfl ?_
                    refine rb_goto ?_
                    refine rn_step rfl ?_
                    refine rb_iload rfl ?_
                    refine rb_iload rfl ?_
                    refine rb_cge (fun h => absurd h (by decide)) (fun _ => ?_)
                    refine rb_aload rfl ?_
                    refine rb_iload rfl ?_
                    refine rb_iload rfl ?_
                    refine rb_iast rfl (by decide) (ok_lt (okL.sA (okL.sA (okL.sA (okL.sA (okL.sA (okL.sI (okL.sI s1_ok _ _ _) _ _ _) _ (List.length_set ..)) _ (List.length_set ..)) _ (List.length_set ..)) _ (List.length_set ..)) _ (List.length_set ..)) (c := 46) (n := 24) (by decide) rfl (by decide) (by decide)) (wa_46 _ _) ?_
                    refine rb_iinc (lv' := [some (.ref 46), some (.int 0), some (.int 6), some (.int 24)]) rfl rfl ?_
                    refine rb_goto ?_
                    refine rn_step rfl ?_
                    refine rb_iload rfl ?_
                    refine rb_iload rfl ?_
                    refine rb_cge (fun h => absurd h (by decide)) (fun _ => ?_)
                    refine rb_aload rfl ?_
                    refine rb_iload rfl ?_
                    refine rb_iload rfl ?_
                    refine rb_iast rfl (by decide) (ok_lt (okL.sA (okL.sA (okL.sA (okL.sA (okL.sA (okL.sA (okL.sI (okL.sI s1_ok _ _ _) _ _ _) _ (List.length_set ..)) _ (List.length_set ..)) _ (List.length_set ..)) _ (List.length_set ..)) _ (List.length_set ..)) _ (List.length_set ..)) (c := 46) (n := 24) (by decide) rfl (by decide) (by decide)) (wa_46 _ _) ?_
                    refine rb_iinc (lv' := [some (.ref 46), some (.int 0), some (.int 7), some (.int 24)]) rfl rfl ?_
                    refine rb_goto ?_
                    refine rn_step rfl ?_
                    refine rb_iload rfl ?_
                    refine rb_iload rfl ?_
                    refine rb_cge (fun h => absurd h (by decide)) (fun _ => ?_)
                    refine rb_aload rfl ?_
                    refine rb_iload rfl ?_
                    refine rb_iload rfl ?_
                    refine rb_iast rfl (by decide) (ok_lt (okL.sA (okL.sA (okL.sA (okL.sA (okL.sA (okL.sA (okL.sA (okL.sI (okL.sI s1_ok _ _ _) _ _ _) _ (List.length_set ..)) _ (List.length_set ..)) _ (List.length_set ..)) _ (List.length_set ..)) _ (List.length_set ..)) _ (List.length_set ..)) _ (List.length_set ..)) (c := 46) (n := 24) (by decide) rfl (by decide) (by decide)) (wa_46 _ _) ?_
                    refine rb_iinc (lv' := [some (.ref 46), some (.int 0), some (.int 8), some (.int 24)]) rfl rfl ?_
                    refine rb_goto ?_
                    refine rn_step rfl ?_
                    refine rb_iload rfl ?_
                    refine rb_iload rfl ?_
                    refine rb_cge (fun h => absurd h (by decide)) (fun _ => ?_)
                    refine rb_aload rfl ?_
                    refine rb_iload rfl ?_
                    refine rb_iload rfl ?_
                    refine rb_iast rfl (by decide) (ok_lt (okL.sA (okL.sA (okL.sA (okL.sA (okL.sA (okL.sA (okL.sA (okL.sA (okL.sI (okL.sI s1_ok _ _ _) _ _ _) _ (List.length_set ..)) _ (List.length_set ..)) _ (List.length_set ..)) _ (List.length_set ..)) _ (List.length_set ..)) _ (List.length_set ..)) _ (List.length_set ..)) _ (List.length_set ..)) (c := 46) (n := 24) (by decide) rfl (by decide) (by decide)) (wa_46 _ _) ?_
                    refine rb_iinc (lv' := [some (.ref 46), some (.int 0), some (.int 9), some (.int 24)]) rfl rfl ?_
                    refine rb_goto ?_
                    refine rn_step rfl ?_
                    refine rb_iload rfl ?_
                    refine rb_iload rfl ?_
                    refine rb_cge (fun h => absurd h (by decide)) (fun _ => ?_)
                    refine rb_aload rfl ?_
                    refine rb_iload rfl ?_
                    refine rb_iload rfl ?_
                    refine rb_iast rfl (by decide) (ok_lt (okL.sA (okL.sA (okL.sA (okL.sA (okL.sA (okL.sA (okL.sA (okL.sA (okL.sA (okL.sI (okL.sI s1_ok _ _ _) _ _ _) _ (List.length_set ..)) _ (List.length_set ..)) _ (List.length_set ..)) _ (List.length_set ..)) _ (List.length_set ..)) _ (List.length_set ..)) _ (List.length_set ..)) _ (List.length_set ..)) _ (List.length_set ..)) (c := 46) (n := 24) (by decide) rfl (by decide) (by decide)) (wa_46 _ _) ?_
                    refine rb_iinc (lv' := [some (.ref 46), some (.int 0), some (.int 10), some (.int 24)]) rfl rfl ?_
                    refine rb_goto ?_
                    refine rn_step rfl ?_
                    refine rb_iload rfl ?_
                    refine rb_iload rfl ?_
                    refine rb_cge (fun h => absurd h (by decide)) (fun _ => ?_)
                    refine rb_aload rfl ?_
                    refine rb_iload rfl ?_
                    refine rb_iload rfl ?_
                    refine rb_iast rfl (by decide) (ok_lt (okL.sA (okL.sA (okL.sA (okL.sA (okL.sA (okL.sA (okL.sA (okL.sA (okL.sA (okL.sA (okL.sI (okL.sI s1_ok _ _ _) _ _ _) _ (List.length_set ..)) _ (List.length_set ..)) _ (List.length_set ..)) _ (List.length_set ..)) _ (List.length_set ..)) _ (List.length_set ..)) _ (List.length_set ..)) _ (List.length_set ..)) _ (List.length_set ..)) _ (List.length_set ..)) (c := 46) (n := 24) (by decide) rfl (by decide) (by decide)) (wa_46 _ _) ?_
                    refine rb_iinc (lv' := [some (.ref 46), some (.int 0), some (.int 11), some (.int 24)]) rfl rfl ?_
                    refine rb_goto ?_
                    refine rn_step rfl ?_
                    refine rb_iload rfl ?_
                    refine rb_iload rfl ?_
                    refine rb_cge (fun h => absurd h (by decide)) (fun _ => ?_)
                    refine rb_aload rfl ?_
                    refine rb_iload rfl ?_
                    refine rb_iload rfl ?_
                    refine rb_iast rfl (by decide) (ok_lt (okL.sA (okL.sA (okL.sA (okL.sA (okL.sA (okL.sA (okL.sA (okL.sA (okL.sA (okL.sA (okL.sA (okL.sI (okL.sI s1_ok _ _ _) _ _ _) _ (List.length_set ..)) _ (List.length_set ..)) _ (List.length_set ..)) _ (List.length_set ..)) _ (List.length_set ..)) _ (List.length_set ..)) _ (List.length_set ..)) _ (List.length_set ..)) _ (List.length_set ..)) _ (List.length_set ..)) _ (List.length_set ..)) (c := 46) (n := 24) (by decide) rfl (by decide) (by decide)) (wa_46 _ _) ?_
                    refine rb_iinc (lv' := [some (.ref 46), some (.int 0), some (.int 12), some (.int 24)]) rfl rfl ?_
                    refine rb_goto ?_
                    refine rn_step rfl ?_
                    refine rb_iload rfl ?_
                    refine rb_iload rfl ?_
                    refine rb_cge (fun h => absurd h (by decide)) (fun _ => ?_)
                    refine rb_aload rfl ?_
                    refine rb_iload rfl ?_
                    refine rb_iload rfl ?_
                    refine rb_iast rfl (by decide) (ok_lt (okL.sA (okL.sA (okL.sA (okL.sA (okL.sA (okL.sA (okL.sA (okL.sA (okL.sA (okL.sA (okL.sA (okL.sA (okL.sI (okL.sI s1_ok _ _ _) _ _ _) _ (List.length_set ..)) _ (List.length_set ..)) _ (List.length_set ..)) _ (List.length_set ..)) _ (List.length_set ..)) _ (List.length_set ..)) _ (List.length_set ..)) _ (List.length_set ..)) _ (List.length_set ..)) _ (List.length_set ..)) _ (List.length_set ..)) _ (List.length_set ..)) (c := 46) (n := 24) (by decide) rfl (by decide) (by decide)) (wa_46 _ _) ?_
                    refine rb_iinc (lv' := [some (.ref 46), some (.int 0), some (.int 13), some (.int 24)]) rfl rfl ?_
                    refine rb_goto ?_
                    refine rn_step rfl ?_
                    refine rb_iload rfl ?_
                    refine rb_iload rfl ?_
                    refine rb_cge (fun h => absurd h (by decide)) (fun _ => ?_)
                    refine rb_aload rfl ?_
                    refine rb_iload rfl ?_
                    refine rb_iload rfl ?_
                    refine rb_iast rfl (by decide) (ok_lt (okL.sA (okL.sA (okL.sA (okL.sA (okL.sA (okL.sA (okL.sA (okL.sA (okL.sA (okL.sA (okL.sA (okL.sA (okL.sA (okL.sI (okL.sI s1_ok _ _ _) _ _ _) _ (List.length_set ..)) _ (List.length_set ..)) _ (List.length_set ..)) _ (List.length_set ..)) _ (List.length_set ..)) _ (List.length_set ..)) _ (List.length_set ..)) _ (List.length_set ..)) _ (List.length_set ..)) _ (List.length_set ..)) _ (List.length_set ..)) _ (List.length_set ..)) _ (List.length_set ..)) (c := 46) (n := 24) (by decide) rfl (by decide) (by decide)) (wa_46 _ _) ?_
                    refine rb_iinc (lv' := [some (.ref 46), some (.int 0), some (.int 14), some (.int 24)]) rfl rfl ?_
                    refine rb_goto ?_
                    refine rn_step rfl ?_
                    refine rb_iload rfl ?_
                    refine rb_iload rfl ?_
                    refine rb_cge (fun h => absurd h (by decide)) (fun _ => ?_)
                    refine rb_aload rfl ?_
                    refine rb_iload rfl ?_
                    refine rb_iload rfl ?_
                    refine rb_iast rfl (by decide) (ok_lt (okL.sA (okL.sA (okL.sA (okL.sA (okL.sA (okL.sA (okL.sA (okL.sA (okL.sA (okL.sA (okL.sA (okL.sA (okL.sA (okL.sA (okL.sI (okL.sI s1_ok _ _ _) _ _ _) _ (List.length_set ..)) _ (List.length_set ..)) _ (List.length_set ..)) _ (List.length_set ..)) _ (List.length_set ..)) _ (List.length_set ..)) _ (List.length_set ..)) _ (List.length_set ..)) _ (List.length_set ..)) _ (List.length_set ..)) _ (List.length_set ..)) _ (List.length_set ..)) _ (List.length_set ..)) _ (List.length_set ..)) (c := 46) (n := 24) (by decide) rfl (by decide) (by decide)) (wa_46 _ _) ?_
                    refine rb_iinc (lv' := [some (.ref 46), some (.int 0), some (.int 15), some (.int 24)]) rfl rfl ?_
                    refine rb_goto ?_
                    refine rn_step rfl ?_
                    refine rb_iload rfl ?_
                    refine rb_iload rfl ?_
                    refine rb_cge (fun h => absurd h (by decide)) (fun _ => ?_)
                    refine rb_aload rfl ?_
                    refine rb_iload rfl ?_
                    refine rb_iload rfl ?_
                    refine rb_iast rfl (by decide) (ok_lt (okL.sA (okL.sA (okL.sA (okL.sA (okL.sA (okL.sA (okL.sA (okL.sA (okL.sA (okL.sA (okL.sA (okL.sA (okL.sA (okL.sA (okL.sA (okL.sI (okL.sI s1_ok _ _ _) _ _ _) _ (List.length_set ..)) _ (List.length_set ..)) _ (List.length_set ..)) _ (List.length_set ..)) _ (List.length_set ..)) _ (List.length_set ..)) _ (List.length_set ..)) _ (List.length_set ..)) _ (List.length_set ..)) _ (List.length_set ..)) _ (List.length_set ..)) _ (List.length_set ..)) _ (List.length_set ..)) _ (List.length_set ..)) _ (List.length_set ..)) (c := 46) (n := 24) (by decide) rfl (by decide) (by decide)) (wa_46 _ _) ?_
                    refine rb_iinc (lv' := [some (.ref 46), some (.int 0), some (.int 16), some (.int 24)]) rfl rfl ?_
                    refine rb_goto ?_
                    refine rn_step rfl ?_
                    refine rb_iload rfl ?_
                    refine rb_iload rfl ?_
                    refine rb_cge (fun h => absurd h (by decide)) (fun _ => ?_)
                    refine rb_aload rfl ?_
                    refine rb_iload rfl ?_
                    refine rb_iload rfl ?_
                    refine rb_iast rfl (by decide) (ok_lt (okL.sA (okL.sA (okL.sA (okL.sA (okL.sA (okL.sA (okL.sA (okL.sA (okL.sA (okL.sA (okL.sA (okL.sA (okL.sA (okL.sA (okL.sA (okL.sA (okL.sI (okL.sI s1_ok _ _ _) _ _ _) _ (List.length_set ..)) _ (List.length_set ..)) _ (List.length_set ..)) _ (List.length_set ..)) _ (List.length_set ..)) _ (List.length_set ..)) _ (List.length_set ..)) _ (List.length_set ..)) _ (List.length_set ..)) _ (List.length_set ..)) _ (List.length_set ..)) _ (List.length_set ..)) _ (List.length_set ..)) _ (List.length_set ..)) _ (List.length_set ..)) _ (List.length_set ..)) (c := 46) (n := 24) (by decide) rfl (by decide) (by decide)) (wa_46 _ _) ?_
                    refine rb_iinc (lv' := [some (.ref 46), some (.int 0), some (.int 17), some (.int 24)]) rfl rfl ?_
                    refine rb_goto ?_
                    refine rn_step rfl ?_
                    refine rb_iload rfl ?_
                    refine rb_iload rfl ?_
                    refine rb_cge (fun h => absurd h (by decide)) (fun _ => ?_)
                    refine rb_aload rfl ?_
                    refine rb_iload rfl ?_
                    refine rb_iload rfl ?_
                    refine rb_iast rfl (by decide) (ok_lt (okL.sA (okL.sA (okL.sA (okL.sA (okL.sA (okL.sA (okL.sA (okL.sA (okL.sA (okL.sA (okL.sA (okL.sA (okL.sA (okL.sA (okL.sA (okL.sA (okL.sA (okL.sI (okL.sI s1_ok _ _ _) _ _ _) _ (List.length_set ..)) _ (List.length_set ..)) _ (List.length_set ..)) _ (List.length_set ..)) _ (List.length_set ..)) _ (List.length_set ..)) _ (List.length_set ..)) _ (List.length_set ..)) _ (List.length_set ..)) _ (List.length_set ..)) _ (List.length_set ..)) _ (List.length_set ..)) _ (List.length_set ..)) _ (List.length_set ..)) _ (List.length_set ..)) _ (List.length_set ..)) _ (List.length_set ..)) (c := 46) (n := 24) (by decide) rfl (by decide) (by decide)) (wa_46 _ _) ?_
                    refine rb_iinc (lv' := [some (.ref 46), some (.int 0), some (.int 18), some (.int 24)]) rfl rfl ?_
                    refine rb_goto ?_
                    refine rn_step rfl ?_
                    refine rb_iload rfl ?_
                    refine rb_iload rfl ?_
                    refine rb_cge (fun h => absurd h (by decide)) (fun _ => ?_)
                    refine rb_aload rfl ?_
                    refine rb_iload rfl ?_
                    refine rb_iload rfl ?_
                    refine rb_iast rfl (by decide) (ok_lt (okL.sA (okL.sA (okL.sA (okL.sA (okL.sA (okL.sA (okL.sA (okL.sA (okL.sA (okL.sA (okL.sA (okL.sA (okL.sA (okL.sA (okL.sA (okL.sA (okL.sA (okL.sA (okL.sI (okL.sI s1_ok _ _ _) _ _ _) _ (List.length_set ..)) _ (List.length_set ..)) _ (List.length_set ..)) _ (List.length_set ..)) _ (List.length_set ..)) _ (List.length_set ..)) _ (List.length_set ..)) _ (List.length_set ..)) _ (List.length_set ..)) _ (List.length_set ..)) _ (List.length_set ..)) _ (List.length_set ..)) _ (List.length_set ..)) _ (List.length_set ..)) _ (List.length_set ..)) _ (List.length_set ..)) _ (List.length_set ..)) _ (List.length_set ..)) (c := 46) (n := 24) (by decide) rfl (by decide) (by decide)) (wa_46 _ _) ?_
                    refine rb_iinc (lv' := [some (.ref 46), some (.int 0), some (.int 19), some (.int 24)]) rfl rfl ?_
                    refine rb_goto ?_
                    refine rn_step rfl ?_
                    refine rb_iload rfl ?_
                    refine rb_iload rfl ?_
                    refine rb_cge (fun h => absurd h (by decide)) (fun _ => ?_)
                    refine rb_aload rfl ?_
                    refine rb_iload rfl ?_
                    refine rb_iload rfl ?_
                    refine rb_iast rfl (by decide) (ok_lt (okL.sA (okL.sA (okL.sA (okL.sA (okL.sA (okL.sA (okL.sA (okL.sA (okL.sA (okL.sA (okL.sA (okL.sA (okL.sA (okL.sA (okL.sA (okL.sA (okL.sA (okL.sA (okL.sA (okL.sI (okL.sI s1_ok _ _ _) _ _ _) _ (List.length_set ..)) _ (List.length_set ..)) _ (List.length_set ..)) _ (List.length_set ..)) _ (List.length_set ..)) _ (List.length_set ..)) _ (List.length_set ..)) _ (List.length_set ..)) _ (List.length_set ..)) _ (List.length_set ..)) _ (List.length_set ..)) _ (List.length_set ..)) _ (List.length_set ..)) _ (List.length_set ..)) _ (List.length_set ..)) _ (List.length_set ..)) _ (List.length_set ..)) _ (List.length_set ..)) _ (List.length_set ..)) (c := 46) (n := 24) (by decide) rfl (by decide) (by decide)) (wa_46 _ _) ?_
                    refine rb_iinc (lv' := [some (.ref 46), some (.int 0), some (.int 20), some (.int 24)]) rfl rfl ?_
                    refine rb_goto ?_
                    refine rn_step rfl ?_
                    refine rb_iload rfl ?_
                    refine rb_iload rfl ?_
                    refine rb_cge (fun h => absurd h (by decide)) (fun _ => ?_)
                    refine rb_aload rfl ?_
                    refine rb_iload rfl ?_
                    refine rb_iload rfl ?_
                    refine rb_iast rfl (by decide) (ok_lt (okL.sA (okL.sA (okL.sA (okL.sA (okL.sA (okL.sA (okL.sA (okL.sA (okL.sA (okL.sA (okL.sA (okL.sA (okL.sA (okL.sA (okL.sA (okL.sA (okL.sA (okL.sA (okL.sA (okL.sA (okL.sI (okL.sI s1_ok _ _ _) _ _ _) _ (List.length_set ..)) _ (List.length_set ..)) _ (List.length_set ..)) _ (List.length_set ..)) _ (List.length_set ..)) _ (List.length_set ..)) _ (List.length_set ..)) _ (List.length_set ..)) _ (List.length_set ..)) _ (List.length_set ..)) _ (List.length_set ..)) _ (List.length_set ..)) _ (List.length_set ..)) _ (List.length_set ..)) _ (List.length_set ..)) _ (List.length_set ..)) _ (List.length_set ..)) _ (List.length_set ..)) _ (List.length_set ..)) _ (List.length_set ..)) (c := 46) (n := 24) (by decide) rfl (by decide) (by decide)) (wa_46 _ _) ?_
                    refine rb_iinc (lv' := [some (.ref 46), some (.int 0), some (.int 21), some (.int 24)]) rfl rfl ?_
                    refine rb_goto ?_
                    refine rn_step rfl ?_
                    refine rb_iload rfl ?_
                    refine rb_iload rfl ?_
                    refine rb_cge (fun h => absurd h (by decide)) (fun _ => ?_)
                    refine rb_aload rfl ?_
                    refine rb_iload rfl ?_
                    refine rb_iload rfl ?_
                    refine rb_iast rfl (by decide) (ok_lt (okL.sA (okL.sA (okL.sA (okL.sA (okL.sA (okL.sA (okL.sA (okL.sA (okL.sA (okL.sA (okL.sA (okL.sA (okL.sA (okL.sA (okL.sA (okL.sA (okL.sA (okL.sA (okL.sA (okL.sA (okL.sA (okL.sI (okL.sI s1_ok _ _ _) _ _ _) _ (List.length_set ..)) _ (List.length_set ..)) _ (List.length_set ..)) _ (List.length_set ..)) _ (List.length_set ..)) _ (List.length_set ..)) _ (List.length_set ..)) _ (List.length_set ..)) _ (List.length_set ..)) _ (List.length_set ..)) _ (List.length_set ..)) _ (List.length_set ..)) _ (List.length_set ..)) _ (List.length_set ..)) _ (List.length_set ..)) _ (List.length_set ..)) _ (List.length_set ..)) _ (List.length_set ..)) _ (List.length_set ..)) _ (List.length_set ..)) _ (List.length_set ..)) (c := 46) (n := 24) (by decide) rfl (by decide) (by decide)) (wa_46 _ _) ?_
                    refine rb_iinc (lv' := [some (.ref 46), some (.int 0), some (.int 22), some (.int 24)]) rfl rfl ?_
                    refine rb_goto ?_
                    refine rn_step rfl ?_
                    refine rb_iload rfl ?_
                    refine rb_iload rfl ?_
                    refine rb_cge (fun h => absurd h (by decide)) (fun _ => ?_)
                    refine rb_aload rfl ?_
                    refine rb_iload rfl ?_
                    refine rb_iload rfl ?_
                    refine rb_iast rfl (by decide) (ok_lt (okL.sA (okL.sA (okL.sA (okL.sA (okL.sA (okL.sA (okL.sA (okL.sA (okL.sA (okL.sA (okL.sA (okL.sA (okL.sA (okL.sA (okL.sA (okL.sA (okL.sA (okL.sA (okL.sA (okL.sA (okL.sA (okL.sA (okL.sI (okL.sI s1_ok _ _ _) _ _ _) _ (List.length_set ..)) _ (List.length_set ..)) _ (List.length_set ..)) _ (List.length_set ..)) _ (List.length_set ..)) _ (List.length_set ..)) _ (List.length_set ..)) _ (List.length_set ..)) _ (List.length_set ..)) _ (List.length_set ..)) _ (List.length_set ..)) _ (List.length_set ..)) _ (List.length_set ..)) _ (List.length_set ..)) _ (List.length_set ..)) _ (List.length_set ..)) _ (List.length_set ..)) _ (List.length_set ..)) _ (List.length_set ..)) _ (List.length_set ..)) _ (List.length_set ..)) _ (List.length_set ..)) (c := 46) (n := 24) (by decide) rfl (by decide) (by decide)) (wa_46 _ _) ?_
                    refine rb_iinc (lv' := [some (.ref 46), some (.int 0), some (.int 23), some (.int 24)]) rfl rfl ?_
                    refine rb_goto ?_
                    refine rn_step rfl ?_
                    refine rb_iload rfl ?_
                    refine rb_iload rfl ?_
                    refine rb_cge (fun h => absurd h (by decide)) (fun _ => ?_)
                    refine rb_aload rfl ?_
                    refine rb_iload rfl ?_
                    refine rb_iload rfl ?_
                    refine rb_iast rfl (by decide) (ok_lt (okL.sA (okL.sA (okL.sA (okL.sA (okL.sA (okL.sA (okL.sA (okL.sA (okL.sA (okL.sA (okL.sA (okL.sA (okL.sA (okL.sA (okL.sA (okL.sA (okL.sA (okL.sA (okL.sA (okL.sA (okL.sA (okL.sA (okL.sA (okL.sI (okL.sI s1_ok _ _ _) _ _ _) _ (List.length_set ..)) _ (List.length_set ..)) _ (List.length_set ..)) _ (List.length_set ..)) _ (List.length_set ..)) _ (List.length_set ..)) _ (List.length_set ..)) _ (List.length_set ..)) _ (List.length_set ..)) _ (List.length_set ..)) _ (List.length_set ..)) _ (List.length_set ..)) _ (List.length_set ..)) _ (List.length_set ..)) _ (List.length_set ..)) _ (List.length_set ..)) _ (List.length_set ..)) _ (List.length_set ..)) _ (List.length_set ..)) _ (List.length_set ..)) _ (List.length_set ..)) _ (List.length_set ..)) _ (List.length_set ..)) (c := 46) (n := 24) (by decide) rfl (by decide) (by decide)) (wa_46 _ _) ?_
                    refine rb_iinc (lv' := [some (.ref 46), some (.int 0), some (.int 24), some (.int 24)]) rfl rfl ?_
                    refine rb_goto ?_
                    refine rn_step rfl ?_
                    refine rb_iload rfl ?_
                    refine rb_iload rfl ?_
                    refine rb_cge (fun _ => ?_) (fun h => absurd (by decide) h)
                    refine rn_step rfl ?_
                    refine rb_retv rfl
                  refine rb_retv rfl
                refine rb_push ?_
                refine rb_ret rfl rfl
              case h2 =>
                apply ex_X9_sheet
                refine rn_step rfl ?_
                refine rb_iload rfl ?_
                apply rb_callS1
                case hcl => exact rfl
                case hc =>
                  apply ex_X9_isSheet
                  refine rn_step rfl ?_
                  refine rb_iload rfl ?_
                  refine rb_push ?_
                  refine rb_push ?_
                  apply rb_callS3
                  case hcl => exact rfl
                  case hc =>
                    apply ex_X9_in
                    refine rn_step rfl ?_
                    refine rb_iload rfl ?_
                    refine rb_iload rfl ?_
                    refine rb_clt (fun h => absurd h (by decide)) (fun _ => ?_)
                    refine rb_iload rfl ?_
                    refine rb_iload rfl ?_
                    refine rb_cgt (fun h => absurd h (by decide)) (fun _ => ?_)
                    refine rb_push ?_
                    refine rb_goto ?_
                    refine rn_step rfl ?_
                    refine rb_ret rfl rfl
                  refine rb_ret rfl rfl
                refine rb_ieq (fun h => absurd h (by decide)) (fun _ => ?_)
                refine rb_iload rfl ?_
                refine rb_push ?_
                refine rb_push ?_
                apply rb_callS3
                case hcl => exact rfl
                case hc =>
                  apply ex_X9_in
                  refine rn_step rfl ?_
                  refine rb_iload rfl ?_
                  refine rb_iload rfl ?_
                  refine rb_clt (fun h => absurd h (by decide)) (fun _ => ?_)
                  refine rb_iload rfl ?_
                  refine rb_iload rfl ?_
                  refine rb_cgt (fun h => absurd h (by decide)) (fun _ => ?_)
                  refine rb_push ?_
                  refine rb_goto ?_
                  refine rn_step rfl ?_
                  refine rb_ret rfl rfl
                refine rb_ieq (fun h => absurd h (by decide)) (fun _ => ?_)
                refine rb_iload rfl ?_
                refine rb_ilt (fun _ => ?_) (fun h => absurd (by decide) h)
                refine rn_step rfl ?_
                refine rb_iload rfl ?_
                refine rb_ilt (fun _ => ?_) (fun h => absurd (by decide) h)
                refine rn_step rfl ?_
                refine rb_aload rfl ?_
                refine rb_getf (v := .ref 83) rfl ?_
                refine rb_iload rfl ?_
                refine rb_iload rfl ?_
                refine rb_iast rfl (by decide) (ok_lt (okL.sA (okL.sA (okL.sA (okL.sA (okL.sA (okL.sA (okL.sA (okL.sA (okL.sA (okL.sA (okL.sA (okL.sA (okL.sA (okL.sA (okL.sA (okL.sA (okL.sA (okL.sA (okL.sA (okL.sA (okL.sA (okL.sA (okL.sA (okL.sA (okL.sI (okL.sI s1_ok _ _ _) _ _ _) _ (List.length_set ..)) _ (List.length_set ..)) _ (List.length_set ..)) _ (List.length_set ..)) _ (List.length_set ..)) _ (List.length_set ..)) _ (List.length_set ..)) _ (List.length_set ..)) _ (List.length_set ..)) _ (List.length_set ..)) _ (List.length_set ..)) _ (List.length_set ..)) _ (List.length_set ..)) _ (List.length_set ..)) _ (List.length_set ..)) _ (List.length_set ..)) _ (List.length_set ..)) _ (List.length_set ..)) _ (List.length_set ..)) _ (List.length_set ..)) _ (List.length_set ..)) _ (List.length_set ..)) _ (List.length_set ..)) _ (List.length_set ..)) (c := 83) (n := 4) (by decide) rfl (by decide) (by decide)) (wa_83 _ _) ?_
                refine rb_aload rfl ?_
                refine rb_getf (v := .ref 84) rfl ?_
                refine rb_iload rfl ?_
                refine rb_iload rfl ?_
                refine rb_ige (fun h => absurd h (by decide)) (fun _ => ?_)
                refine rb_push ?_
                refine rb_goto ?_
                refine rn_step rfl ?_
                refine rb_iast rfl (by decide) (ok_lt (okL.sA (okL.sA (okL.sA (okL.sA (okL.sA (okL.sA (okL.sA (okL.sA (okL.sA (okL.sA (okL.sA (okL.sA (okL.sA (okL.sA (okL.sA (okL.sA (okL.sA (okL.sA (okL.sA (okL.sA (okL.sA (okL.sA (okL.sA (okL.sA (okL.sA (okL.sI (okL.sI s1_ok _ _ _) _ _ _) _ (List.length_set ..)) _ (List.length_set ..)) _ (List.length_set ..)) _ (List.length_set ..)) _ (List.length_set ..)) _ (List.length_set ..)) _ (List.length_set ..)) _ (List.length_set ..)) _ (List.length_set ..)) _ (List.length_set ..)) _ (List.length_set ..)) _ (List.length_set ..)) _ (List.length_set ..)) _ (List.length_set ..)) _ (List.length_set ..)) _ (List.length_set ..)) _ (List.length_set ..)) _ (List.length_set ..)) _ (List.length_set ..)) _ (List.length_set ..)) _ (List.length_set ..)) _ (List.length_set ..)) _ (List.length_set ..)) _ (List.length_set ..)) _ (List.length_set ..)) (c := 84) (n := 4) (by decide) rfl (by decide) (by decide)) (wa_84 _ _) ?_
                refine rb_push ?_
                refine rb_istore (lv' := [some (.ref 68), some (.int 0), some (.int (-1)), some (.int (c)), some (.int 0)]) rfl ?_
                refine rb_goto ?_
                refine rn_step rfl ?_
                refine rb_iload rfl ?_
                refine rb_push ?_
                refine rb_cge (fun h => absurd h (by decide)) (fun _ => ?_)
                refine rb_aload rfl ?_
                refine rb_getf (v := .ref 85) rfl ?_
                refine rb_push ?_
                refine rb_iload rfl ?_
                refine rb_binL (z := 0) (by decide) ?_
                refine rb_iload rfl ?_
                refine rb_binL (z := 0) (by decide) ?_
                refine rb_push ?_
                refine rb_iast rfl (by decide) (ok_lt (okL.sA (okL.sA (okL.sA (okL.sA (okL.sA (okL.sA (okL.sA (okL.sA (okL.sA (okL.sA (okL.sA (okL.sA (okL.sA (okL.sA (okL.sA (okL.sA (okL.sA (okL.sA (okL.sA (okL.sA (okL.sA (okL.sA (okL.sA (okL.sA (okL.sA (okL.sA (okL.sI (okL.sI s1_ok _ _ _) _ _ _) _ (List.length_set ..)) _ (List.length_set ..)) _ (List.length_set ..)) _ (List.length_set ..)) _ (List.length_set ..)) _ (List.length_set ..)) _ (List.length_set ..)) _ (List.length_set ..)) _ (List.length_set ..)) _ (List.length_set ..)) _ (List.length_set ..)) _ (List.length_set ..)) _ (List.length_set ..)) _ (List.length_set ..)) _ (List.length_set ..)) _ (List.length_set ..)) _ (List.length_set ..)) _ (List.length_set ..)) _ (List.length_set ..)) _ (List.length_set ..)) _ (List.length_set ..)) _ (List.length_set ..)) _ (List.length_set ..)) _ (List.length_set ..)) _ (List.length_set ..)) _ (List.length_set ..)) (c := 85) (n := 96) (by decide) rfl (by decide) (by decide)) (wa_85 _ _) ?_
                refine rb_iinc (lv' := [some (.ref 68), some (.int 0), some (.int (-1)), some (.int (c)), some (.int 1)]) rfl rfl ?_
                refine rb_goto ?_
                refine rn_step rfl ?_
                refine rb_iload rfl ?_
                refine rb_push ?_
                refine rb_cge (fun h => absurd h (by decide)) (fun _ => ?_)
                refine rb_aload rfl ?_
                refine rb_getf (v := .ref 85) rfl ?_
                refine rb_push ?_
                refine rb_iload rfl ?_
                refine rb_binL (z := 0) (by decide) ?_
                refine rb_iload rfl ?_
                refine rb_binL (z := 1) (by decide) ?_
                refine rb_push ?_
                refine rb_iast rfl (by decide) (ok_lt (okL.sA (okL.sA (okL.sA (okL.sA (okL.sA (okL.sA (okL.sA (okL.sA (okL.sA (okL.sA (okL.sA (okL.sA (okL.sA (okL.sA (okL.sA (okL.sA (okL.sA (okL.sA (okL.sA (okL.sA (okL.sA (okL.sA (okL.sA (okL.sA (okL.sA (okL.sA (okL.sA (okL.sI (okL.sI s1_ok _ _ _) _ _ _) _ (List.length_set ..)) _ (List.length_set ..)) _ (List.length_set ..)) _ (List.length_set ..)) _ (List.length_set ..)) _ (List.length_set ..)) _ (List.length_set ..)) _ (List.length_set ..)) _ (List.length_set ..)) _ (List.length_set ..)) _ (List.length_set ..)) _ (List.length_set ..)) _ (List.length_set ..)) _ (List.length_set ..)) _ (List.length_set ..)) _ (List.length_set ..)) _ (List.length_set ..)) _ (List.length_set ..)) _ (List.length_set ..)) _ (List.length_set ..)) _ (List.length_set ..)) _ (List.length_set ..)) _ (List.length_set ..)) _ (List.length_set ..)) _ (List.length_set ..)) _ (List.length_set ..)) _ (List.length_set ..)) (c := 85) (n := 96) (by decide) rfl (by decide) (by decide)) (wa_85 _ _) ?_
                refine rb_iinc (lv' := [some (.ref 68), some (.int 0), some (.int (-1)), some (.int (c)), some (.int 2)]) rfl rfl ?_
                refine rb_goto ?_
                refine rn_step rfl ?_
                refine rb_iload rfl ?_
                refine rb_push ?_
                refine rb_cge (fun h => absurd h (by decide)) (fun _ => ?_)
                refine rb_aload rfl ?_
                refine rb_getf (v := .ref 85) rfl ?_
                refine rb_push ?_
                refine rb_iload rfl ?_
                refine rb_binL (z := 0) (by decide) ?_
                refine rb_iload rfl ?_
                refine rb_binL (z := 2) (by decide) ?_
                refine rb_push ?_
                refine rb_iast rfl (by decide) (ok_lt (okL.sA (okL.sA (okL.sA (okL.sA (okL.sA (okL.sA (okL.sA (okL.sA (okL.sA (okL.sA (okL.sA (okL.sA (okL.sA (okL.sA (okL.sA (okL.sA (okL.sA (okL.sA (okL.sA (okL.sA (okL.sA (okL.sA (okL.sA (okL.sA (okL.sA (okL.sA (okL.sA (okL.sA (okL.sI (okL.sI s1_ok _ _ _) _ _ _) _ (List.length_set ..)) _ (List.length_set ..)) _ (List.length_set ..)) _ (List.length_set ..)) _ (List.length_set ..)) _ (List.length_set ..)) _ (List.length_set ..)) _ (List.length_set ..)) _ (List.length_set ..)) _ (List.length_set ..)) _ (List.length_set ..)) _ (List.length_set ..)) _ (List.length_set ..)) _ (List.length_set ..)) _ (List.length_set ..)) _ (List.length_set ..)) _ (List.length_set ..)) _ (List.length_set ..)) _ (List.length_set ..)) _ (List.length_set ..)) _ (List.length_set ..)) _ (List.length_set ..)) _ (List.length_set ..)) _ (List.length_set ..)) _ (List.length_set ..)) _ (List.length_set ..)) _ (List.length_set ..)) _ (List.length_set ..)) (c := 85) (n := 96) (by decide) rfl (by decide) (by decide)) (wa_85 _ _) ?_
                refine rb_iinc (lv' := [some (.ref 68), some (.int 0), some (.int (-1)), some (.int (c)), some (.int 3)]) rfl rfl ?_
                refine rb_goto ?_
                refine rn_step rfl ?_
                refine rb_iload rfl ?_
                refine rb_push ?_
                refine rb_cge (fun h => absurd h (by decide)) (fun _ => ?_)
                refine rb_aload rfl ?_
                refine rb_getf (v := .ref 85) rfl ?_
                refine rb_push ?_
                refine rb_iload rfl ?_
                refine rb_binL (z := 0) (by decide) ?_
                refine rb_iload rfl ?_
                refine rb_binL (z := 3) (by decide) ?_
                refine rb_push ?_
                refine rb_iast rfl (by decide) (ok_lt (okL.sA (okL.sA (okL.sA (okL.sA (okL.sA (okL.sA (okL.sA (okL.sA (okL.sA (okL.sA (okL.sA (okL.sA (okL.sA (okL.sA (okL.sA (okL.sA (okL.sA (okL.sA (okL.sA (okL.sA (okL.sA (okL.sA (okL.sA (okL.sA (okL.sA (okL.sA (okL.sA (okL.sA (okL.sA (okL.sI (okL.sI s1_ok _ _ _) _ _ _) _ (List.length_set ..)) _ (List.length_set ..)) _ (List.length_set ..)) _ (List.length_set ..)) _ (List.length_set ..)) _ (List.length_set ..)) _ (List.length_set ..)) _ (List.length_set ..)) _ (List.length_set ..)) _ (List.length_set ..)) _ (List.length_set ..)) _ (List.length_set ..)) _ (List.length_set ..)) _ (List.length_set ..)) _ (List.length_set ..)) _ (List.length_set ..)) _ (List.length_set ..)) _ (List.length_set ..)) _ (List.length_set ..)) _ (List.length_set ..)) _ (List.length_set ..)) _ (List.length_set ..)) _ (List.length_set ..)) _ (List.length_set ..)) _ (List.length_set ..)) _ (List.length_set ..)) _ (List.length_set ..)) _ (List.length_set ..)) _ (List.length_set ..)) (c := 85) (n := 96) (by decide) rfl (by decide) (by decide)) (wa_85 _ _) ?_
                refine rb_iinc (lv' := [some (.ref 68), some (.int 0), some (.int (-1)), some (.int (c)), some (.int 4)]) rfl rfl ?_
                refine rb_goto ?_
                refine rn_step rfl ?_
                refine rb_iload rfl ?_
                refine rb_push ?_
                refine rb_cge (fun h => absurd h (by decide)) (fun _ => ?_)
                refine rb_aload rfl ?_
                refine rb_getf (v := .ref 85) rfl ?_
                refine rb_push ?_
                refine rb_iload rfl ?_
                refine rb_binL (z := 0) (by decide) ?_
                refine rb_iload rfl ?_
                refine rb_binL (z := 4) (by decide) ?_
                refine rb_push ?_
                refine rb_iast rfl (by decide) (ok_lt (okL.sA (okL.sA (okL.sA (okL.sA (okL.sA (okL.sA (okL.sA (okL.sA (okL.sA (okL.sA (okL.sA (okL.sA (okL.sA (okL.sA (okL.sA (okL.sA (okL.sA (okL.sA (okL.sA (okL.sA (okL.sA (okL.sA (okL.sA (okL.sA (okL.sA (okL.sA (okL.sA (okL.sA (okL.sA (okL.sA (okL.sI (okL.sI s1_ok _ _ _) _ _ _) _ (List.length_set ..)) _ (List.length_set ..)) _ (List.length_set ..)) _ (List.length_set ..)) _ (List.length_set ..)) _ (List.length_set ..)) _ (List.length_set ..)) _ (List.length_set ..)) _ (List.length_set ..)) _ (List.length_set ..)) _ (List.length_set ..)) _ (List.length_set ..)) _ (List.length_set ..)) _ (List.length_set ..)) _ (List.length_set ..)) _ (List.length_set ..)) _ (List.length_set ..)) _ (List.length_set ..)) _ (List.length_set ..)) _ (List.length_set ..)) _ (List.length_set ..)) _ (List.length_set ..)) _ (List.length_set ..)) _ (List.length_set ..)) _ (List.length_set ..)) _ (List.length_set ..)) _ (List.length_set ..)) _ (List.length_set ..)) _ (List.length_set ..)) _ (List.length_set ..)) (c := 85) (n := 96) (by decide) rfl (by decide) (by decide)) (wa_85 _ _) ?_
                refine rb_iinc (lv' := [some (.ref 68), some (.int 0), some (.int (-1)), some (.int (c)), some (.int 5)]) rfl rfl ?_
                refine rb_goto ?_
                refine rn_step rfl ?_
                refine rb_iload rfl ?_
                refine rb_push ?_
                refine rb_cge (fun h => absurd h (by decide)) (fun _ => ?_)
                refine rb_aload rfl ?_
                refine rb_getf (v := .ref 85) rfl ?_
                refine rb_push ?_
                refine rb_iload rfl ?_
                refine rb_binL (z := 0) (by decide) ?_
                refine rb_iload rfl ?_
                refine rb_binL (z := 5) (by decide) ?_
                refine rb_push ?_
                refine rb_iast rfl (by decide) (ok_lt (okL.sA (okL.sA (okL.sA (okL.sA (okL.sA (okL.sA (okL.sA (okL.sA (okL.sA (okL.sA (okL.sA (okL.sA (okL.sA (okL.sA (okL.sA (okL.sA (okL.sA (okL.sA (okL.sA (okL.sA (okL.sA (okL.sA (okL.sA (okL.sA (okL.sA (okL.sA (okL.sA (okL.sA (okL.sA (okL.sA (okL.sA (okL.sI (okL.sI s1_ok _ _ _) _ _ _) _ (List.length_set ..)) _ (List.length_set ..)) _ (List.length_set ..)) _ (List.length_set ..)) _ (List.length_set ..)) _ (List.length_set ..)) _ (List.length_set ..)) _ (List.length_set ..)) _ (List.length_set ..)) _ (List.length_set ..)) _ (List.length_set ..)) _ (List.length_set ..)) _ (List.length_set ..)) _ (List.length_set ..)) _ (List.length_set ..)) _ (List.length_set ..)) _ (List.length_set ..)) _ (List.length_set ..)) _ (List.length_set ..)) _ (List.length_set ..)) _ (List.length_set ..)) _ (List.length_set ..)) _ (List.length_set ..)) _ (List.length_set ..)) _ (List.length_set ..)) _ (List.length_set ..)) _ (List.length_set ..)) _ (List.length_set ..)) _ (List.length_set ..)) _ (List.length_set ..)) _ (List.length_set ..)) (c := 85) (n := 96) (by decide) rfl (by decide) (by decide)) (wa_85 _ _) ?_
                refine rb_iinc (lv' := [some (.ref 68), some (.int 0), some (.int (-1)), some (.int (c)), some (.int 6)]) rfl rfl ?_
                refine rb_goto ?_
                refine rn_step rfl ?_
                refine rb_iload rfl ?_
                refine rb_push ?_
                refine rb_cge (fun h => absurd h (by decide)) (fun _ => ?_)
                refine rb_aload rfl ?_
                refine rb_getf (v := .ref 85) rfl ?_
                refine rb_push ?_
                refine rb_iload rfl ?_
                refine rb_binL (z := 0) (by decide) ?_
                refine rb_iload rfl ?_
                refine rb_binL (z := 6) (by decide) ?_
                refine rb_push ?_
                refine rb_iast rfl (by decide) (ok_lt (okL.sA (okL.sA (okL.sA (okL.sA (okL.sA (okL.sA (okL.sA (okL.sA (okL.sA (okL.sA (okL.sA (okL.sA (okL.sA (okL.sA (okL.sA (okL.sA (okL.sA (okL.sA (okL.sA (okL.sA (okL.sA (okL.sA (okL.sA (okL.sA (okL.sA (okL.sA (okL.sA (okL.sA (okL.sA (okL.sA (okL.sA (okL.sA (okL.sI (okL.sI s1_ok _ _ _) _ _ _) _ (List.length_set ..)) _ (List.length_set ..)) _ (List.length_set ..)) _ (List.length_set ..)) _ (List.length_set ..)) _ (List.length_set ..)) _ (List.length_set ..)) _ (List.length_set ..)) _ (List.length_set ..)) _ (List.length_set ..)) _ (List.length_set ..)) _ (List.length_set ..)) _ (List.length_set ..)) _ (List.length_set ..)) _ (List.length_set ..)) _ (List.length_set ..)) _ (List.length_set ..)) _ (List.length_set ..)) _ (List.length_set ..)) _ (List.length_set ..)) _ (List.length_set ..)) _ (List.length_set ..)) _ (List.length_set ..)) _ (List.length_set ..)) _ (List.length_set ..)) _ (List.length_set ..)) _ (List.length_set ..)) _ (List.length_set ..)) _ (List.length_set ..)) _ (List.length_set ..)) _ (List.length_set ..)) _ (List.length_set ..)) (c := 85) (n := 96) (by decide) rfl (by decide) (by decide)) (wa_85 _ _) ?_
                refine rb_iinc (lv' := [some (.ref 68), some (.int 0), some (.int (-1)), some (.int (c)), some (.int 7)]) rfl rfl ?_
                refine rb_goto ?_
                refine rn_step rfl ?_
                refine rb_iload rfl ?_
                refine rb_push ?_
                refine rb_cge (fun h => absurd h (by decide)) (fun _ => ?_)
                refine rb_aload rfl ?_
                refine rb_getf (v := .ref 85) rfl ?_
                refine rb_push ?_
                refine rb_iload rfl ?_
                refine rb_binL (z := 0) (by decide) ?_
                refine rb_iload rfl ?_
                refine rb_binL (z := 7) (by decide) ?_
                refine rb_push ?_
                refine rb_iast rfl (by decide) (ok_lt (okL.sA (okL.sA (okL.sA (okL.sA (okL.sA (okL.sA (okL.sA (okL.sA (okL.sA (okL.sA (okL.sA (okL.sA (okL.sA (okL.sA (okL.sA (okL.sA (okL.sA (okL.sA (okL.sA (okL.sA (okL.sA (okL.sA (okL.sA (okL.sA (okL.sA (okL.sA (okL.sA (okL.sA (okL.sA (okL.sA (okL.sA (okL.sA (okL.sA (okL.sI (okL.sI s1_ok _ _ _) _ _ _) _ (List.length_set ..)) _ (List.length_set ..)) _ (List.length_set ..)) _ (List.length_set ..)) _ (List.length_set ..)) _ (List.length_set ..)) _ (List.length_set ..)) _ (List.length_set ..)) _ (List.length_set ..)) _ (List.length_set ..)) _ (List.length_set ..)) _ (List.length_set ..)) _ (List.length_set ..)) _ (List.length_set ..)) _ (List.length_set ..)) _ (List.length_set ..)) _ (List.length_set ..)) _ (List.length_set ..)) _ (List.length_set ..)) _ (List.length_set ..)) _ (List.length_set ..)) _ (List.length_set ..)) _ (List.length_set ..)) _ (List.length_set ..)) _ (List.length_set ..)) _ (List.length_set ..)) _ (List.length_set ..)) _ (List.length_set ..)) _ (List.length_set ..)) _ (List.length_set ..)) _ (List.length_set ..)) _ (List.length_set ..)) _ (List.length_set ..)) (c := 85) (n := 96) (by decide) rfl (by decide) (by decide)) (wa_85 _ _) ?_
                refine rb_iinc (lv' := [some (.ref 68), some (.int 0), some (.int (-1)), some (.int (c)), some (.int 8)]) rfl rfl ?_
                refine rb_goto ?_
                refine rn_step rfl ?_
                refine rb_iload rfl ?_
                refine rb_push ?_
                refine rb_cge (fun h => absurd h (by decide)) (fun _ => ?_)
                refine rb_aload rfl ?_
                refine rb_getf (v := .ref 85) rfl ?_
                refine rb_push ?_
                refine rb_iload rfl ?_
                refine rb_binL (z := 0) (by decide) ?_
                refine rb_iload rfl ?_
                refine rb_binL (z := 8) (by decide) ?_
                refine rb_push ?_
                refine rb_iast rfl (by decide) (ok_lt (okL.sA (okL.sA (okL.sA (okL.sA (okL.sA (okL.sA (okL.sA (okL.sA (okL.sA (okL.sA (okL.sA (okL.sA (okL.sA (okL.sA (okL.sA (okL.sA (okL.sA (okL.sA (okL.sA (okL.sA (okL.sA (okL.sA (okL.sA (okL.sA (okL.sA (okL.sA (okL.sA (okL.sA (okL.sA (okL.sA (okL.sA (okL.sA (okL.sA (okL.sA (okL.sI (okL.sI s1_ok _ _ _) _ _ _) _ (List.length_set ..)) _ (List.length_set ..)) _ (List.length_set ..)) _ (List.length_set ..)) _ (List.length_set ..)) _ (List.length_set ..)) _ (List.length_set ..)) _ (List.length_set ..)) _ (List.length_set ..)) _ (List.length_set ..)) _ (List.length_set ..)) _ (List.length_set ..)) _ (List.length_set ..)) _ (List.length_set ..)) _ (List.length_set ..)) _ (List.length_set ..)) _ (List.length_set ..)) _ (List.length_set ..)) _ (List.length_set ..)) _ (List.length_set ..)) _ (List.length_set ..)) _ (List.length_set ..)) _ (List.length_set ..)) _ (List.length_set ..)) _ (List.length_set ..)) _ (List.length_set ..)) _ (List.length_set ..)) _ (List.length_set ..)) _ (List.length_set ..)) _ (List.length_set ..)) _ (List.length_set ..)) _ (List.length_set ..)) _ (List.length_set ..)) _ (List.length_set ..)) (c := 85) (n := 96) (by decide) rfl (by decide) (by decide)) (wa_85 _ _) ?_
                refine rb_iinc (lv' := [some (.ref 68), some (.int 0), some (.int (-1)), some (.int (c)), some (.int 9)]) rfl rfl ?_
                refine rb_goto ?_
                refine rn_step rfl ?_
                refine rb_iload rfl ?_
                refine rb_push ?_
                refine rb_cge (fun h => absurd h (by decide)) (fun _ => ?_)
                refine rb_aload rfl ?_
                refine rb_getf (v := .ref 85) rfl ?_
                refine rb_push ?_
                refine rb_iload rfl ?_
                refine rb_binL (z := 0) (by decide) ?_
                refine rb_iload rfl ?_
                refine rb_binL (z := 9) (by decide) ?_
                refine rb_push ?_
                refine rb_iast rfl (by decide) (ok_lt (okL.sA (okL.sA (okL.sA (okL.sA (okL.sA (okL.sA (okL.sA (okL.sA (okL.sA (okL.sA (okL.sA (okL.sA (okL.sA (okL.sA (okL.sA (okL.sA (okL.sA (okL.sA (okL.sA (okL.sA (okL.sA (okL.sA (okL.sA (okL.sA (okL.sA (okL.sA (okL.sA (okL.sA (okL.sA (okL.sA (okL.sA (okL.sA (okL.sA (okL.sA (okL.sA (okL.sI (okL.sI s1_ok _ _ _) _ _ _) _ (List.length_set ..)) _ (List.length_set ..)) _ (List.length_set ..)) _ (List.length_set ..)) _ (List.length_set ..)) _ (List.length_set ..)) _ (List.length_set ..)) _ (List.length_set ..)) _ (List.length_set ..)) _ (List.length_set ..)) _ (List.length_set ..)) _ (List.length_set ..)) _ (List.length_set ..)) _ (List.length_set ..)) _ (List.length_set ..)) _ (List.length_set ..)) _ (List.length_set ..)) _ (List.length_set ..)) _ (List.length_set ..)) _ (List.length_set ..)) _ (List.length_set ..)) _ (List.length_set ..)) _ (List.length_set ..)) _ (List.length_set ..)) _ (List.length_set ..)) _ (List.length_set ..)) _ (List.length_set ..)) _ (List.length_set ..)) _ (List.length_set ..)) _ (List.length_set ..)) _ (List.length_set ..)) _ (List.length_set ..)) _ (List.length_set ..)) _ (List.length_set ..)) _ (List.length_set ..)) (c := 85) (n := 96) (by decide) rfl (by decide) (by decide)) (wa_85 _ _) ?_
                refine rb_iinc (lv' := [some (.ref 68), some (.int 0), some (.int (-1)), some (.int (c)), some (.int 10)]) rfl rfl ?_
                refine rb_goto ?_
                refine rn_step rfl ?_
                refine rb_iload rfl ?_
                refine rb_push ?_
                refine rb_cge (fun h => absurd h (by decide)) (fun _ => ?_)
                refine rb_aload rfl ?_
                refine rb_getf (v := .ref 85) rfl ?_
                refine rb_push ?_
                refine rb_iload rfl ?_
                refine rb_binL (z := 0) (by decide) ?_
                refine rb_iload rfl ?_
                refine rb_binL (z := 10) (by decide) ?_
                refine rb_push ?_
                refine rb_iast rfl (by decide) (ok_lt (okL.sA (okL.sA (okL.sA (okL.sA (okL.sA (okL.sA (okL.sA (okL.sA (okL.sA (okL.sA (okL.sA (okL.sA (okL.sA (okL.sA (okL.sA (okL.sA (okL.sA (okL.sA (okL.sA (okL.sA (okL.sA (okL.sA (okL.sA (okL.sA (okL.sA (okL.sA (okL.sA (okL.sA (okL.sA (okL.sA (okL.sA (okL.sA (okL.sA (okL.sA (okL.sA (okL.sA (okL.sI (okL.sI s1_ok _ _ _) _ _ _) _ (List.length_set ..)) _ (List.length_set ..)) _ (List.length_set ..)) _ (List.length_set ..)) _ (List.length_set ..)) _ (List.length_set ..)) _ (List.length_set ..)) _ (List.length_set ..)) _ (List.length_set ..)) _ (List.length_set ..)) _ (List.length_set ..)) _ (List.length_set ..)) _ (List.length_set ..)) _ (List.length_set ..)) _ (List.length_set ..)) _ (List.length_set ..)) _ (List.length_set ..)) _ (List.length_set ..)) _ (List.length_set ..)) _ (List.length_set ..)) _ (List.length_set ..)) _ (List.length_set ..)) _ (List.length_set ..)) _ (List.length_set ..)) _ (List.length_set ..)) _ (List.length_set ..)) _ (List.length_set ..)) _ (List.length_set ..)) _ (List.length_set ..)) _ (List.length_set ..)) _ (List.length_set ..)) _ (List.length_set ..)) _ (List.length_set ..)) _ (List.length_set ..)) _ (List.length_set ..)) _ (List.length_set ..)) (c := 85) (n := 96) (by decide) rfl (by decide) (by decide)) (wa_85 _ _) ?_
                refine rb_iinc (lv' := [some (.ref 68), some (.int 0), some (.int (-1)), some (.int (c)), some (.int 11)]) rfl rfl ?_
                refine rb_goto ?_
                refine rn_step rfl ?_
                refine rb_iload rfl ?_
                refine rb_push ?_
                refine rb_cge (fun h => absurd h (by decide)) (fun _ => ?_)
                refine rb_aload rfl ?_
                refine rb_getf (v := .ref 85) rfl ?_
                refine rb_push ?_
                refine rb_iload rfl ?_
                refine rb_binL (z := 0) (by decide) ?_
                refine rb_iload rfl ?_
                refine rb_binL (z := 11) (by decide) ?_
                refine rb_push ?_
                refine rb_iast rfl (by decide) (ok_lt (okL.sA (okL.sA (okL.sA (okL.sA (okL.sA (okL.sA (okL.sA (okL.sA (okL.sA (okL.sA (okL.sA (okL.sA (okL.sA (okL.sA (okL.sA (okL.sA (okL.sA (okL.sA (okL.sA (okL.sA (okL.sA (okL.sA (okL.sA (okL.sA (okL.sA (okL.sA (okL.sA (okL.sA (okL.sA (okL.sA (okL.sA (okL.sA (okL.sA (okL.sA (okL.sA (okL.sA (okL.sA (okL.sI (okL.sI s1_ok _ _ _) _ _ _) _ (List.length_set ..)) _ (List.length_set ..)) _ (List.length_set ..)) _ (List.length_set ..)) _ (List.length_set ..)) _ (List.length_set ..)) _ (List.length_set ..)) _ (List.length_set ..)) _ (List.length_set ..)) _ (List.length_set ..)) _ (List.length_set ..)) _ (List.length_set ..)) _ (List.length_set ..)) _ (List.length_set ..)) _ (List.length_set ..)) _ (List.length_set ..)) _ (List.length_set ..)) _ (List.length_set ..)) _ (List.length_set ..)) _ (List.length_set ..)) _ (List.length_set ..)) _ (List.length_set ..)) _ (List.length_set ..)) _ (List.length_set ..)) _ (List.length_set ..)) _ (List.length_set ..)) _ (List.length_set ..)) _ (List.length_set ..)) _ (List.length_set ..)) _ (List.length_set ..)) _ (List.length_set ..)) _ (List.length_set ..)) _ (List.length_set ..)) _ (List.length_set ..)) _ (List.length_set ..)) _ (List.length_set ..)) _ (List.length_set ..)) (c := 85) (n := 96) (by decide) rfl (by decide) (by decide)) (wa_85 _ _) ?_
                refine rb_iinc (lv' := [some (.ref 68), some (.int 0), some (.int (-1)), some (.int (c)), some (.int 12)]) rfl rfl ?_
                refine rb_goto ?_
                refine rn_step rfl ?_
                refine rb_iload rfl ?_
                refine rb_push ?_
                refine rb_cge (fun h => absurd h (by decide)) (fun _ => ?_)
                refine rb_aload rfl ?_
                refine rb_getf (v := .ref 85) rfl ?_
                refine rb_push ?_
                refine rb_iload rfl ?_
                refine rb_binL (z := 0) (by decide) ?_
                refine rb_iload rfl ?_
                refine rb_binL (z := 12) (by decide) ?_
                refine rb_push ?_
                refine rb_iast rfl (by decide) (ok_lt (okL.sA (okL.sA (okL.sA (okL.sA (okL.sA (okL.sA (okL.sA (okL.sA (okL.sA (okL.sA (okL.sA (okL.sA (okL.sA (okL.sA (okL.sA (okL.sA (okL.sA (okL.sA (okL.sA (okL.sA (okL.sA (okL.sA (okL.sA (okL.sA (okL.sA (okL.sA (okL.sA (okL.sA (okL.sA (okL.sA (okL.sA (okL.sA (okL.sA (okL.sA (okL.sA (okL.sA (okL.sA (okL.sA (okL.sI (okL.sI s1_ok _ _ _) _ _ _) _ (List.length_set ..)) _ (List.length_set ..)) _ (List.length_set ..)) _ (List.length_set ..)) _ (List.length_set ..)) _ (List.length_set ..)) _ (List.length_set ..)) _ (List.length_set ..)) _ (List.length_set ..)) _ (List.length_set ..)) _ (List.length_set ..)) _ (List.length_set ..)) _ (List.length_set ..)) _ (List.length_set ..)) _ (List.length_set ..)) _ (List.length_set ..)) _ (List.length_set ..)) _ (List.length_set ..)) _ (List.length_set ..)) _ (List.length_set ..)) _ (List.length_set ..)) _ (List.length_set ..)) _ (List.length_set ..)) _ (List.length_set ..)) _ (List.length_set ..)) _ (List.length_set ..)) _ (List.length_set ..)) _ (List.length_set ..)) _ (List.length_set ..)) _ (List.length_set ..)) _ (List.length_set ..)) _ (List.length_set ..)) _ (List.length_set ..)) _ (List.length_set ..)) _ (List.length_set ..)) _ (List.length_set ..)) _ (List.length_set ..)) _ (List.length_set ..)) (c := 85) (n := 96) (by decide) rfl (by decide) (by decide)) (wa_85 _ _) ?_
                refine rb_iinc (lv' := [some (.ref 68), some (.int 0), some (.int (-1)), some (.int (c)), some (.int 13)]) rfl rfl ?_
                refine rb_goto ?_
                refine rn_step rfl ?_
                refine rb_iload rfl ?_
                refine rb_push ?_
                refine rb_cge (fun h => absurd h (by decide)) (fun _ => ?_)
                refine rb_aload rfl ?_
                refine rb_getf (v := .ref 85) rfl ?_
                refine rb_push ?_
                refine rb_iload rfl ?_
                refine rb_binL (z := 0) (by decide) ?_
                refine rb_iload rfl ?_
                refine rb_binL (z := 13) (by decide) ?_
                refine rb_push ?_
                refine rb_iast rfl (by decide) (ok_lt (okL.sA (okL.sA (okL.sA (okL.sA (okL.sA (okL.sA (okL.sA (okL.sA (okL.sA (okL.sA (okL.sA (okL.sA (okL.sA (okL.sA (okL.sA (okL.sA (okL.sA (okL.sA (okL.sA (okL.sA (okL.sA (okL.sA (okL.sA (okL.sA (okL.sA (okL.sA (okL.sA (okL.sA (okL.sA (okL.sA (okL.sA (okL.sA (okL.sA (okL.sA (okL.sA (okL.sA (okL.sA (okL.sA (okL.sA (okL.sI (okL.sI s1_ok _ _ _) _ _ _) _ (List.length_set ..)) _ (List.length_set ..)) _ (List.length_set ..)) _ (List.length_set ..)) _ (List.length_set ..)) _ (List.length_set ..)) _ (List.length_set ..)) _ (List.length_set ..)) _ (List.length_set ..)) _ (List.length_set ..)) _ (List.length_set ..)) _ (List.length_set ..)) _ (List.length_set ..)) _ (List.length_set ..)) _ (List.length_set ..)) _ (List.length_set ..)) _ (List.length_set ..)) _ (List.length_set ..)) _ (List.length_set ..)) _ (List.length_set ..)) _ (List.length_set ..)) _ (List.length_set ..)) _ (List.length_set ..)) _ (List.length_set ..)) _ (List.length_set ..)) _ (List.length_set ..)) _ (List.length_set ..)) _ (List.length_set ..)) _ (List.length_set ..)) _ (List.length_set ..)) _ (List.length_set ..)) _ (List.length_set ..)) _ (List.length_set ..)) _ (List.length_set ..)) _ (List.length_set ..)) _ (List.length_set ..)) _ (List.length_set ..)) _ (List.length_set ..)) _ (List.length_set ..)) (c := 85) (n := 96) (by decide) rfl (by decide) (by decide)) (wa_85 _ _) ?_
                refine rb_iinc (lv' := [some (.ref 68), some (.int 0), some (.int (-1)), some (.int (c)), some (.int 14)]) rfl rfl ?_
                refine rb_goto ?_
                refine rn_step rfl ?_
                refine rb_iload rfl ?_
                refine rb_push ?_
                refine rb_cge (fun h => absurd h (by decide)) (fun _ => ?_)
                refine rb_aload rfl ?_
                refine rb_getf (v := .ref 85) rfl ?_
                refine rb_push ?_
                refine rb_iload rfl ?_
                refine rb_binL (z := 0) (by decide) ?_
                refine rb_iload rfl ?_
                refine rb_binL (z := 14) (by decide) ?_
                refine rb_push ?_
                refine rb_iast rfl (by decide) (ok_lt (okL.sA (okL.sA (okL.sA (okL.sA (okL.sA (okL.sA (okL.sA (okL.sA (okL.sA (okL.sA (okL.sA (okL.sA (okL.sA (okL.sA (okL.sA (okL.sA (okL.sA (okL.sA (okL.sA (okL.sA (okL.sA (okL.sA (okL.sA (okL.sA (okL.sA (okL.sA (okL.sA (okL.sA (okL.sA (okL.sA (okL.sA (okL.sA (okL.sA (okL.sA (okL.sA (okL.sA (okL.sA (okL.sA (okL.sA (okL.sA (okL.sI (okL.sI s1_ok _ _ _) _ _ _) _ (List.length_set ..)) _ (List.length_set ..)) _ (List.length_set ..)) _ (List.length_set ..)) _ (List.length_set ..)) _ (List.length_set ..)) _ (List.length_set ..)) _ (List.length_set ..)) _ (List.length_set ..)) _ (List.length_set ..)) _ (List.length_set ..)) _ (List.length_set ..)) _ (List.length_set ..)) _ (List.length_set ..)) _ (List.length_set ..)) _ (List.length_set ..)) _ (List.length_set ..)) _ (List.length_set ..)) _ (List.length_set ..)) _ (List.length_set ..)) _ (List.length_set ..)) _ (List.length_set ..)) _ (List.length_set ..)) _ (List.length_set ..)) _ (List.length_set ..)) _ (List.length_set ..)) _ (List.length_set ..)) _ (List.length_set ..)) _ (List.length_set ..)) _ (List.length_set ..)) _ (List.length_set ..)) _ (List.length_set ..)) _ (List.length_set ..)) _ (List.length_set ..)) _ (List.length_set ..)) _ (List.length_set ..)) _ (List.length_set ..)) _ (List.length_set ..)) _ (List.length_set ..)) _ (List.length_set ..)) (c := 85) (n := 96) (by decide) rfl (by decide) (by decide)) (wa_85 _ _) ?_
                refine rb_iinc (lv' := [some (.ref 68), some (.int 0), some (.int (-1)), some (.int (c)), some (.int 15)]) rfl rfl ?_
                refine rb_goto ?_
                refine rn_step rfl ?_
                refine rb_iload rfl ?_
                refine rb_push ?_
                refine rb_cge (fun h => absurd h (by decide)) (fun _ => ?_)
                refine rb_aload rfl ?_
                refine rb_getf (v := .ref 85) rfl ?_
                refine rb_push ?_
                refine rb_iload rfl ?_
                refine rb_binL (z := 0) (by decide) ?_
                refine rb_iload rfl ?_
                refine rb_binL (z := 15) (by decide) ?_
                refine rb_push ?_
                refine rb_iast rfl (by decide) (ok_lt (okL.sA (okL.sA (okL.sA (okL.sA (okL.sA (okL.sA (okL.sA (okL.sA (okL.sA (okL.sA (okL.sA (okL.sA (okL.sA (okL.sA (okL.sA (okL.sA (okL.sA (okL.sA (okL.sA (okL.sA (okL.sA (okL.sA (okL.sA (okL.sA (okL.sA (okL.sA (okL.sA (okL.sA (okL.sA (okL.sA (okL.sA (okL.sA (okL.sA (okL.sA (okL.sA (okL.sA (okL.sA (okL.sA (okL.sA (okL.sA (okL.sA (okL.sI (okL.sI s1_ok _ _ _) _ _ _) _ (List.length_set ..)) _ (List.length_set ..)) _ (List.length_set ..)) _ (List.length_set ..)) _ (List.length_set ..)) _ (List.length_set ..)) _ (List.length_set ..)) _ (List.length_set ..)) _ (List.length_set ..)) _ (List.length_set ..)) _ (List.length_set ..)) _ (List.length_set ..)) _ (List.length_set ..)) _ (List.length_set ..)) _ (List.length_set ..)) _ (List.length_set ..)) _ (List.length_set ..)) _ (List.length_set ..)) _ (List.length_set ..)) _ (List.length_set ..)) _ (List.length_set ..)) _ (List.length_set ..)) _ (List.length_set ..)) _ (List.length_set ..)) _ (List.length_set ..)) _ (List.length_set ..)) _ (List.length_set ..)) _ (List.length_set ..)) _ (List.length_set ..)) _ (List.length_set ..)) _ (List.length_set ..)) _ (List.length_set ..)) _ (List.length_set ..)) _ (List.length_set ..)) _ (List.length_set ..)) _ (List.length_set ..)) _ (List.length_set ..)) _ (List.length_set ..)) _ (List.length_set ..)) _ (List.length_set ..)) _ (List.length_set ..)) (c := 85) (n := 96) (by decide) rfl (by decide) (by decide)) (wa_85 _ _) ?_
                refine rb_iinc (lv' := [some (.ref 68), some (.int 0), some (.int (-1)), some (.int (c)), some (.int 16)]) rfl rfl ?_
                refine rb_goto ?_
                refine rn_step rfl ?_
                refine rb_iload rfl ?_
                refine rb_push ?_
                refine rb_cge (fun h => absurd h (by decide)) (fun _ => ?_)
                refine rb_aload rfl ?_
                refine rb_getf (v := .ref 85) rfl ?_
                refine rb_push ?_
                refine rb_iload rfl ?_
                refine rb_binL (z := 0) (by decide) ?_
                refine rb_iload rfl ?_
                refine rb_binL (z := 16) (by decide) ?_
                refine rb_push ?_
                refine rb_iast rfl (by decide) (ok_lt (okL.sA (okL.sA (okL.sA (okL.sA (okL.sA (okL.sA (okL.sA (okL.sA (okL.sA (okL.sA (okL.sA (okL.sA (okL.sA (okL.sA (okL.sA (okL.sA (okL.sA (okL.sA (okL.sA (okL.sA (okL.sA (okL.sA (okL.sA (okL.sA (okL.sA (okL.sA (okL.sA (okL.sA (okL.sA (okL.sA (okL.sA (okL.sA (okL.sA (okL.sA (okL.sA (okL.sA (okL.sA (okL.sA (okL.sA (okL.sA (okL.sA (okL.sA (okL.sI (okL.sI s1_ok _ _ _) _ _ _) _ (List.length_set ..)) _ (List.length_set ..)) _ (List.length_set ..)) _ (List.length_set ..)) _ (List.length_set ..)) _ (List.length_set ..)) _ (List.length_set ..)) _ (List.length_set ..)) _ (List.length_set ..)) _ (List.length_set ..)) _ (List.length_set ..)) _ (List.length_set ..)) _ (List.length_set ..)) _ (List.length_set ..)) _ (List.length_set ..)) _ (List.length_set ..)) _ (List.length_set ..)) _ (List.length_set ..)) _ (List.length_set ..)) _ (List.length_set ..)) _ (List.length_set ..)) _ (List.length_set ..)) _ (List.length_set ..)) _ (List.length_set ..)) _ (List.length_set ..)) _ (List.length_set ..)) _ (List.length_set ..)) _ (List.length_set ..)) _ (List.length_set ..)) _ (List.length_set ..)) _ (List.length_set ..)) _ (List.length_set ..)) _ (List.length_set ..)) _ (List.length_set ..)) _ (List.length_set ..)) _ (List.length_set ..)) _ (List.length_set ..)) _ (List.length_set ..)) _ (List.length_set ..)) _ (List.length_set ..)) _ (List.length_set ..)) _ (List.length_set ..)) (c := 85) (n := 96) (by decide) rfl (by decide) (by decide)) (wa_85 _ _) ?_
                refine rb_iinc (lv' := [some (.ref 68), some (.int 0), some (.int (-1)), some (.int (c)), some (.int 17)]) rfl rfl ?_
                refine rb_goto ?_
                refine rn_step rfl ?_
                refine rb_iload rfl ?_
                refine rb_push ?_
                refine rb_cge (fun h => absurd h (by decide)) (fun _ => ?_)
                refine rb_aload rfl ?_
                refine rb_getf (v := .ref 85) rfl ?_
                refine rb_push ?_
                refine rb_iload rfl ?_
                refine rb_binL (z := 0) (by decide) ?_
                refine rb_iload rfl ?_
                refine rb_binL (z := 17) (by decide) ?_
                refine rb_push ?_
                refine rb_iast rfl (by decide) (ok_lt (okL.sA (okL.sA (okL.sA (okL.sA (okL.sA (okL.sA (okL.sA (okL.sA (okL.sA (okL.sA (okL.sA (okL.sA (okL.sA (okL.sA (okL.sA (okL.sA (okL.sA (okL.sA (okL.sA (okL.sA (okL.sA (okL.sA (okL.sA (okL.sA (okL.sA (okL.sA (okL.sA (okL.sA (okL.sA (okL.sA (okL.sA (okL.sA (okL.sA (okL.sA (okL.sA (okL.sA (okL.sA (okL.sA (okL.sA (okL.sA (okL.sA (okL.sA (okL.sA (okL.sI (okL.sI s1_ok _ _ _) _ _ _) _ (List.length_set ..)) _ (List.length_set ..)) _ (List.length_set ..)) _ (List.length_set ..)) _ (List.length_set ..)) _ (List.length_set ..)) _ (List.length_set ..)) _ (List.length_set ..)) _ (List.length_set ..)) _ (List.length_set ..)) _ (List.length_set ..)) _ (List.length_set ..)) _ (List.length_set ..)) _ (List.length_set ..)) _ (List.length_set ..)) _ (List.length_set ..)) _ (List.length_set ..)) _ (List.length_set ..)) _ (List.length_set ..)) _ (List.length_set ..)) _ (List.length_set ..)) _ (List.length_set ..)) _ (List.length_set ..)) _ (List.length_set ..)) _ (List.length_set ..)) _ (List.length_set ..)) _ (List.length_set ..)) _ (List.length_set ..)) _ (List.length_set ..)) _ (List.length_set ..)) _ (List.length_set ..)) _ (List.length_set ..)) _ (List.length_set ..)) _ (List.length_set ..)) _ (List.length_set ..)) _ (List.length_set ..)) _ (List.length_set ..)) _ (List.length_set ..)) _ (List.length_set ..)) _ (List.length_set ..)) _ (List.length_set ..)) _ (List.length_set ..)) _ (List.length_set ..)) (c := 85) (n := 96) (by decide) rfl (by decide) (by decide)) (wa_85 _ _) ?_
                refine rb_iinc (lv' := [some (.ref 68), some (.int 0), some (.int (-1)), some (.int (c)), some (.int 18)]) rfl rfl ?_
                refine rb_goto ?_
                refine rn_step rfl ?_
                refine rb_iload rfl ?_
                refine rb_push ?_
                refine rb_cge (fun h => absurd h (by decide)) (fun _ => ?_)
                refine rb_aload rfl ?_
                refine rb_getf (v := .ref 85) rfl ?_
                refine rb_push ?_
                refine rb_iload rfl ?_
                refine rb_binL (z := 0) (by decide) ?_
                refine rb_iload rfl ?_
                refine rb_binL (z := 18) (by decide) ?_
                refine rb_push ?_
                refine rb_iast rfl (by decide) (ok_lt (okL.sA (okL.sA (okL.sA (okL.sA (okL.sA (okL.sA (okL.sA (okL.sA (okL.sA (okL.sA (okL.sA (okL.sA (okL.sA (okL.sA (okL.sA (okL.sA (okL.sA (okL.sA (okL.sA (okL.sA (okL.sA (okL.sA (okL.sA (okL.sA (okL.sA (okL.sA (okL.sA (okL.sA (okL.sA (okL.sA (okL.sA (okL.sA (okL.sA (okL.sA (okL.sA (okL.sA (okL.sA (okL.sA (okL.sA (okL.sA (okL.sA (okL.sA (okL.sA (okL.sA (okL.sI (okL.sI s1_ok _ _ _) _ _ _) _ (List.length_set ..)) _ (List.length_set ..)) _ (List.length_set ..)) _ (List.length_set ..)) _ (List.length_set ..)) _ (List.length_set ..)) _ (List.length_set ..)) _ (List.length_set ..)) _ (List.length_set ..)) _ (List.length_set ..)) _ (List.length_set ..)) _ (List.length_set ..)) _ (List.length_set ..)) _ (List.length_set ..)) _ (List.length_set ..)) _ (List.length_set ..)) _ (List.length_set ..)) _ (List.length_set ..)) _ (List.length_set ..)) _ (List.length_set ..)) _ (List.length_set ..)) _ (List.length_set ..)) _ (List.length_set ..)) _ (List.length_set ..)) _ (List.length_set ..)) _ (List.length_set ..)) _ (List.length_set ..)) _ (List.length_set ..)) _ (List.length_set ..)) _ (List.length_set ..)) _ (List.length_set ..)) _ (List.length_set ..)) _ (List.length_set ..)) _ (List.length_set ..)) _ (List.length_set ..)) _ (List.length_set ..)) _ (List.length_set ..)) _ (List.length_set ..)) _ (List.length_set ..)) _ (List.length_set ..)) _ (List.length_set ..)) _ (List.length_set ..)) _ (List.length_set ..)) _ (List.length_set ..)) (c := 85) (n := 96) (by decide) rfl (by decide) (by decide)) (wa_85 _ _) ?_
                refine rb_iinc (lv' := [some (.ref 68), some (.int 0), some (.int (-1)), some (.int (c)), some (.int 19)]) rfl rfl ?_
                refine rb_goto ?_
                refine rn_step rfl ?_
                refine rb_iload rfl ?_
                refine rb_push ?_
                refine rb_cge (fun h => absurd h (by decide)) (fun _ => ?_)
                refine rb_aload rfl ?_
                refine rb_getf (v := .ref 85) rfl ?_
                refine rb_push ?_
                refine rb_iload rfl ?_
                refine rb_binL (z := 0) (by decide) ?_
                refine rb_iload rfl ?_
                refine rb_binL (z := 19) (by decide) ?_
                refine rb_push ?_
                refine rb_iast rfl (by decide) (ok_lt (okL.sA (okL.sA (okL.sA (okL.sA (okL.sA (okL.sA (okL.sA (okL.sA (okL.sA (okL.sA (okL.sA (okL.sA (okL.sA (okL.sA (okL.sA (okL.sA (okL.sA (okL.sA (okL.sA (okL.sA (okL.sA (okL.sA (okL.sA (okL.sA (okL.sA (okL.sA (okL.sA (okL.sA (okL.sA (okL.sA (okL.sA (okL.sA (okL.sA (okL.sA (okL.sA (okL.sA (okL.sA (okL.sA (okL.sA (okL.sA (okL.sA (okL.sA (okL.sA (okL.sA (okL.sA (okL.sI (okL.sI s1_ok _ _ _) _ _ _) _ (List.length_set ..)) _ (List.length_set ..)) _ (List.length_set ..)) _ (List.length_set ..)) _ (List.length_set ..)) _ (List.length_set ..)) _ (List.length_set ..)) _ (List.length_set ..)) _ (List.length_set ..)) _ (List.length_set ..)) _ (List.length_set ..)) _ (List.length_set ..)) _ (List.length_set ..)) _ (List.length_set ..)) _ (List.length_set ..)) _ (List.length_set ..)) _ (List.length_set ..)) _ (List.length_set ..)) _ (List.length_set ..)) _ (List.length_set ..)) _ (List.length_set ..)) _ (List.length_set ..)) _ (List.length_set ..)) _ (List.length_set ..)) _ (List.length_set ..)) _ (List.length_set ..)) _ (List.length_set ..)) _ (List.length_set ..)) _ (List.length_set ..)) _ (List.length_set ..)) _ (List.length_set ..)) _ (List.length_set ..)) _ (List.length_set ..)) _ (List.length_set ..)) _ (List.length_set ..)) _ (List.length_set ..)) _ (List.length_set ..)) _ (List.length_set ..)) _ (List.length_set ..)) _ (List.length_set ..)) _ (List.length_set ..)) _ (List.length_set ..)) _ (List.length_set ..)) _ (List.length_set ..)) _ (List.length_set ..)) (c := 85) (n := 96) (by decide) rfl (by decide) (by decide)) (wa_85 _ _) ?_
                refine rb_iinc (lv' := [some (.ref 68), some (.int 0), some (.int (-1)), some (.int (c)), some (.int 20)]) rfl rfl ?_
                refine rb_goto ?_
                refine rn_step rfl ?_
                refine rb_iload rfl ?_
                refine rb_push ?_
                refine rb_cge (fun h => absurd h (by decide)) (fun _ => ?_)
                refine rb_aload rfl ?_
                refine rb_getf (v := .ref 85) rfl ?_
                refine rb_push ?_
                refine rb_iload rfl ?_
                refine rb_binL (z := 0) (by decide) ?_
                refine rb_iload rfl ?_
                refine rb_binL (z := 20) (by decide) ?_
                refine rb_push ?_
                refine rb_iast rfl (by decide) (ok_lt (okL.sA (okL.sA (okL.sA (okL.sA (okL.sA (okL.sA (okL.sA (okL.sA (okL.sA (okL.sA (okL.sA (okL.sA (okL.sA (okL.sA (okL.sA (okL.sA (okL.sA (okL.sA (okL.sA (okL.sA (okL.sA (okL.sA (okL.sA (okL.sA (okL.sA (okL.sA (okL.sA (okL.sA (okL.sA (okL.sA (okL.sA (okL.sA (okL.sA (okL.sA (okL.sA (okL.sA (okL.sA (okL.sA (okL.sA (okL.sA (okL.sA (okL.sA (okL.sA (okL.sA (okL.sA (okL.sA (okL.sI (okL.sI s1_ok _ _ _) _ _ _) _ (List.length_set ..)) _ (List.length_set ..)) _ (List.length_set ..)) _ (List.length_set ..)) _ (List.length_set ..)) _ (List.length_set ..)) _ (List.length_set ..)) _ (List.length_set ..)) _ (List.length_set ..)) _ (List.length_set ..)) _ (List.length_set ..)) _ (List.length_set ..)) _ (List.length_set ..)) _ (List.length_set ..)) _ (List.length_set ..)) _ (List.length_set ..)) _ (List.length_set ..)) _ (List.length_set ..)) _ (List.length_set ..)) _ (List.length_set ..)) _ (List.length_set ..)) _ (List.length_set ..)) _ (List.length_set ..)) _ (List.length_set ..)) _ (List.length_set ..)) _ (List.length_set ..)) _ (List.length_set ..)) _ (List.length_set ..)) _ (List.length_set ..)) _ (List.length_set ..)) _ (List.length_set ..)) _ (List.length_set ..)) _ (List.length_set ..)) _ (List.length_set ..)) _ (List.length_set ..)) _ (List.length_set ..)) _ (List.length_set ..)) _ (List.length_set ..)) _ (List.length_set ..)) _ (List.length_set ..)) _ (List.length_set ..)) _ (List.length_set ..)) _ (List.length_set ..)) _ (List.length_set ..)) _ (List.length_set ..)) _ (List.length_set ..)) (c := 85) (n := 96) (by decide) rfl (by decide) (by decide)) (wa_85 _ _) ?_
                refine rb_iinc (lv' := [some (.ref 68), some (.int 0), some (.int (-1)), some (.int (c)), some (.int 21)]) rfl rfl ?_
                refine rb_goto ?_
                refine rn_step rfl ?_
                refine rb_iload rfl ?_
                refine rb_push ?_
                refine rb_cge (fun h => absurd h (by decide)) (fun _ => ?_)
                refine rb_aload rfl ?_
                refine rb_getf (v := .ref 85) rfl ?_
                refine rb_push ?_
                refine rb_iload rfl ?_
                refine rb_binL (z := 0) (by decide) ?_
                refine rb_iload rfl ?_
                refine rb_binL (z := 21) (by decide) ?_
                refine rb_push ?_
                refine rb_iast rfl (by decide) (ok_lt (okL.sA (okL.sA (okL.sA (okL.sA (okL.sA (okL.sA (okL.sA (okL.sA (okL.sA (okL.sA (okL.sA (okL.sA (okL.sA (okL.sA (okL.sA (okL.sA (okL.sA (okL.sA (okL.sA (okL.sA (okL.sA (okL.sA (okL.sA (okL.sA (okL.sA (okL.sA (okL.sA (okL.sA (okL.sA (okL.sA (okL.sA (okL.sA (okL.sA (okL.sA (okL.sA (okL.sA (okL.sA (okL.sA (okL.sA (okL.sA (okL.sA (okL.sA (okL.sA (okL.sA (okL.sA (okL.sA (okL.sA (okL.sI (okL.sI s1_ok _ _ _) _ _ _) _ (List.length_set ..)) _ (List.length_set ..)) _ (List.length_set ..)) _ (List.length_set ..)) _ (List.length_set ..)) _ (List.length_set ..)) _ (List.length_set ..)) _ (List.length_set ..)) _ (List.length_set ..)) _ (List.length_set ..)) _ (List.length_set ..)) _ (List.length_set ..)) _ (List.length_set ..)) _ (List.length_set ..)) _ (List.length_set ..)) _ (List.length_set ..)) _ (List.length_set ..)) _ (List.length_set ..)) _ (List.length_set ..)) _ (List.length_set ..)) _ (List.length_set ..)) _ (List.length_set ..)) _ (List.length_set ..)) _ (List.length_set ..)) _ (List.length_set ..)) _ (List.length_set ..)) _ (List.length_set ..)) _ (List.length_set ..)) _ (List.length_set ..)) _ (List.length_set ..)) _ (List.length_set ..)) _ (List.length_set ..)) _ (List.length_set ..)) _ (List.length_set ..)) _ (List.length_set ..)) _ (List.length_set ..)) _ (List.length_set ..)) _ (List.length_set ..)) _ (List.length_set ..)) _ (List.length_set ..)) _ (List.length_set ..)) _ (List.length_set ..)) _ (List.length_set ..)) _ (List.length_set ..)) _ (List.length_set ..)) _ (List.length_set ..)) _ (List.length_set ..)) (c := 85) (n := 96) (by decide) rfl (by decide) (by decide)) (wa_85 _ _) ?_
                refine rb_iinc (lv' := [some (.ref 68), some (.int 0), some (.int (-1)), some (.int (c)), some (.int 22)]) rfl rfl ?_
                refine rb_goto ?_
                refine rn_step rfl ?_
                refine rb_iload rfl ?_
                refine rb_push ?_
                refine rb_cge (fun h => absurd h (by decide)) (fun _ => ?_)
                refine rb_aload rfl ?_
                refine rb_getf (v := .ref 85) rfl ?_
                refine rb_push ?_
                refine rb_iload rfl ?_
                refine rb_binL (z := 0) (by decide) ?_
                refine rb_iload rfl ?_
                refine rb_binL (z := 22) (by decide) ?_
                refine rb_push ?_
                refine rb_iast rfl (by decide) (ok_lt (okL.sA (okL.sA (okL.sA (okL.sA (okL.sA (okL.sA (okL.sA (okL.sA (okL.sA (okL.sA (okL.sA (okL.sA (okL.sA (okL.sA (okL.sA (okL.sA (okL.sA (okL.sA (okL.sA (okL.sA (okL.sA (okL.sA (okL.sA (okL.sA (okL.sA (okL.sA (okL.sA (okL.sA (okL.sA (okL.sA (okL.sA (okL.sA (okL.sA (okL.sA (okL.sA (okL.sA (okL.sA (okL.sA (okL.sA (okL.sA (okL.sA (okL.sA (okL.sA (okL.sA (okL.sA (okL.sA (okL.sA (okL.sA (okL.sI (okL.sI s1_ok _ _ _) _ _ _) _ (List.length_set ..)) _ (List.length_set ..)) _ (List.length_set ..)) _ (List.length_set ..)) _ (List.length_set ..)) _ (List.length_set ..)) _ (List.length_set ..)) _ (List.length_set ..)) _ (List.length_set ..)) _ (List.length_set ..)) _ (List.length_set ..)) _ (List.length_set ..)) _ (List.length_set ..)) _ (List.length_set ..)) _ (List.length_set ..)) _ (List.length_set ..)) _ (List.length_set ..)) _ (List.length_set ..)) _ (List.length_set ..)) _ (List.length_set ..)) _ (List.length_set ..)) _ (List.length_set ..)) _ (List.length_set ..)) _ (List.length_set ..)) _ (List.length_set ..)) _ (List.length_set ..)) _ (List.length_set ..)) _ (List.length_set ..)) _ (List.length_set ..)) _ (List.length_set ..)) _ (List.length_set ..)) _ (List.length_set ..)) _ (List.length_set ..)) _ (List.length_set ..)) _ (List.length_set ..)) _ (List.length_set ..)) _ (List.length_set ..)) _ (List.length_set ..)) _ (List.length_set ..)) _ (List.length_set ..)) _ (List.length_set ..)) _ (List.length_set ..)) _ (List.length_set ..)) _ (List.length_set ..)) _ (List.length_set ..)) _ (List.length_set ..)) _ (List.length_set ..)) _ (List.length_set ..)) (c := 85) (n := 96) (by decide) rfl (by decide) (by decide)) (wa_85 _ _) ?_
                refine rb_iinc (lv' := [some (.ref 68), some (.int 0), some (.int (-1)), some (.int (c)), some (.int 23)]) rfl rfl ?_
                refine rb_goto ?_
                refine rn_step rfl ?_
                refine rb_iload rfl ?_
                refine rb_push ?_
                refine rb_cge (fun h => absurd h (by decide)) (fun _ => ?_)
                refine rb_aload rfl ?_
                refine rb_getf (v := .ref 85) rfl ?_
                refine rb_push ?_
                refine rb_iload rfl ?_
                refine rb_binL (z := 0) (by decide) ?_
                refine rb_iload rfl ?_
                refine rb_binL (z := 23) (by decide) ?_
                refine rb_push ?_
                refine rb_iast rfl (by decide) (ok_lt (okL.sA (okL.sA (okL.sA (okL.sA (okL.sA (okL.sA (okL.sA (okL.sA (okL.sA (okL.sA (okL.sA (okL.sA (okL.sA (okL.sA (okL.sA (okL.sA (okL.sA (okL.sA (okL.sA (okL.sA (okL.sA (okL.sA (okL.sA (okL.sA (okL.sA (okL.sA (okL.sA (okL.sA (okL.sA (okL.sA (okL.sA (okL.sA (okL.sA (okL.sA (okL.sA (okL.sA (okL.sA (okL.sA (okL.sA (okL.sA (okL.sA (okL.sA (okL.sA (okL.sA (okL.sA (okL.sA (okL.sA (okL.sA (okL.sA (okL.sI (okL.sI s1_ok _ _ _) _ _ _) _ (List.length_set ..)) _ (List.length_set ..)) _ (List.length_set ..)) _ (List.length_set ..)) _ (List.length_set ..)) _ (List.length_set ..)) _ (List.length_set ..)) _ (List.length_set ..)) _ (List.length_set ..)) _ (List.length_set ..)) _ (List.length_set ..)) _ (List.length_set ..)) _ (List.length_set ..)) _ (List.length_set ..)) _ (List.length_set ..)) _ (List.length_set ..)) _ (List.length_set ..)) _ (List.length_set ..)) _ (List.length_set ..)) _ (List.length_set ..)) _ (List.length_set ..)) _ (List.length_set ..)) _ (List.length_set ..)) _ (List.length_set ..)) _ (List.length_set ..)) _ (List.length_set ..)) _ (List.length_set ..)) _ (List.length_set ..)) _ (List.length_set ..)) _ (List.length_set ..)) _ (List.length_set ..)) _ (List.length_set ..)) _ (List.length_set ..)) _ (List.length_set ..)) _ (List.length_set ..)) _ (List.length_set ..)) _ (List.length_set ..)) _ (List.length_set ..)) _ (List.length_set ..)) _ (List.length_set ..)) _ (List.length_set ..)) _ (List.length_set ..)) _ (List.length_set ..)) _ (List.length_set ..)) _ (List.length_set ..)) _ (List.length_set ..)) _ (List.length_set ..)) _ (List.length_set ..)) _ (List.length_set ..)) (c := 85) (n := 96) (by decide) rfl (by decide) (by decide)) (wa_85 _ _) ?_
                refine rb_iinc (lv' := [some (.ref 68), some (.int 0), some (.int (-1)), some (.int (c)), some (.int 24)]) rfl rfl ?_
                refine rb_goto ?_
                refine rn_step rfl ?_
                refine rb_iload rfl ?_
                refine rb_push ?_
                refine rb_cge (fun _ => ?_) (fun h => absurd (by decide) h)
                refine rn_step rfl ?_
                refine rb_aload rfl ?_
                refine rb_getf (v := .ref 84) rfl ?_
                refine rb_iload rfl ?_
                refine rb_iald rfl (by decide) (show _ = some (0) from rfl) ?_
                refine rb_ret rfl rfl
              case h3 => exact (okL.sA (okL.sA (okL.sA (okL.sA (okL.sA (okL.sA (okL.sA (okL.sA (okL.sA (okL.sA (okL.sA (okL.sA (okL.sA (okL.sA (okL.sA (okL.sA (okL.sA (okL.sA (okL.sA (okL.sA (okL.sA (okL.sA (okL.sA (okL.sA (okL.sA (okL.sA (okL.sA (okL.sA (okL.sA (okL.sA (okL.sA (okL.sA (okL.sA (okL.sA (okL.sA (okL.sA (okL.sA (okL.sA (okL.sA (okL.sA (okL.sA (okL.sA (okL.sA (okL.sA (okL.sA (okL.sA (okL.sA (okL.sA (okL.sA (okL.sA (okL.sI (okL.sI s1_ok _ _ _) _ _ _) _ (List.length_set ..)) _ (List.length_set ..)) _ (List.length_set ..)) _ (List.length_set ..)) _ (List.length_set ..)) _ (List.length_set ..)) _ (List.length_set ..)) _ (List.length_set ..)) _ (List.length_set ..)) _ (List.length_set ..)) _ (List.length_set ..)) _ (List.length_set ..)) _ (List.length_set ..)) _ (List.length_set ..)) _ (List.length_set ..)) _ (List.length_set ..)) _ (List.length_set ..)) _ (List.length_set ..)) _ (List.length_set ..)) _ (List.length_set ..)) _ (List.length_set ..)) _ (List.length_set ..)) _ (List.length_set ..)) _ (List.length_set ..)) _ (List.length_set ..)) _ (List.length_set ..)) _ (List.length_set ..)) _ (List.length_set ..)) _ (List.length_set ..)) _ (List.length_set ..)) _ (List.length_set ..)) _ (List.length_set ..)) _ (List.length_set ..)) _ (List.length_set ..)) _ (List.length_set ..)) _ (List.length_set ..)) _ (List.length_set ..)) _ (List.length_set ..)) _ (List.length_set ..)) _ (List.length_set ..)) _ (List.length_set ..)) _ (List.length_set ..)) _ (List.length_set ..)) _ (List.length_set ..)) _ (List.length_set ..)) _ (List.length_set ..)) _ (List.length_set ..)) _ (List.length_set ..)) _ (List.length_set ..)) _ (List.length_set ..))
              case h4 => exact rfl
            ·
              rcases ia_cut (c := 2) hla hha with ⟨hla, hha⟩ | ⟨hla, hha⟩
              ·
                obtain rfl : a = 1 := ia_one hla hha (by decide) (by decide)
                apply p1_intro (v := 0)
                case h1 =>
                  apply ex_X8_sheet
                  refine rn_step rfl ?_
                  refine rb_iload rfl ?_
                  apply rb_callS1
                  case hcl => exact rfl
                  case hc =>
                    apply ex_X8_isSheet
                    refine rn_step rfl ?_
                    refine rb_iload rfl ?_
                    refine rb_push ?_
                    refine rb_push ?_
                    apply rb_callS3
                    case hcl => exact rfl
                    case hc =>
                      apply ex_X8_within
                      refine rn_step rfl ?_
                      refine rb_iload rfl ?_
                      refine rb_iload rfl ?_
                      refine rb_clt (fun h => absurd h (by decide)) (fun _ => ?_)
                      refine rb_iload rfl ?_
                      refine rb_iload rfl ?_
                      refine rb_cgt (fun h => absurd h (by decide)) (fun _ => ?_)
                      refine rb_push ?_
                      refine rb_goto ?_
                      refine rn_step rfl ?_
                      refine rb_ret rfl rfl
                    refine rb_ret rfl rfl
                  refine rb_ieq (fun h => absurd h (by decide)) (fun _ => ?_)
                  refine rb_iload rfl ?_
                  refine rb_push ?_
                  refine rb_push ?_
                  apply rb_callS3
                  case hcl => exact rfl
                  case hc =>
                    apply ex_X8_within
                    refine rn_step rfl ?_
                    refine rb_iload rfl ?_
                    refine rb_iload rfl ?_
                    refine rb_clt (fun h => absurd h (by decide)) (fun _ => ?_)
                    refine rb_iload rfl ?_
                    refine rb_iload rfl ?_
                    refine rb_cgt (fun h => absurd h (by decide)) (fun _ => ?_)
                    refine rb_push ?_
                    refine rb_goto ?_
                    refine rn_step rfl ?_
                    refine rb_ret rfl rfl
                  refine rb_ine (fun _ => ?_) (fun h => absurd (by decide) h)
                  refine rn_step rfl ?_
                  refine rb_iload rfl ?_
                  refine rb_push ?_
                  refine rb_cne (fun h => absurd (by decide) h) (fun _ => ?_)
                  refine rb_aload rfl ?_
                  refine rb_getf (v := .ref 42) rfl ?_
                  refine rb_iload rfl ?_
                  refine rb_aaldR rfl (by decide) rfl ?_
                  refine rb_push ?_
                  refine rb_push ?_
                  apply rb_callV2v
                  case hb => exact rfl
                  case hcl => exact rfl
                  case hc =>
                    apply ex_X2_become
                    refine rn_step rfl ?_
                    refine rb_aload rfl ?_
                    refine rb_iload rfl ?_
                    refine rb_putI (pf_47_1 _ _) ?_
                    refine rb_aload rfl ?_
                    refine rb_iload rfl ?_
                    refine rb_putI (pf_47_2 _ _) ?_
                    refine rb_aload rfl ?_
                    refine rb_getf (v := .ref 48) rfl ?_
                    refine rb_push ?_
                    apply rb_callS2v
                    case hcl => exact rfl
                    case hc =>
                      apply ex_J7_fill_53178
                      refine rn_step rfl ?_
                      refine rb_push ?_
                      refine rb_istore (lv' := [some (.ref 48), some (.int 0), some (.int 0), none]) rfl ?_
                      refine rb_aload rfl ?_
                      refine rb_alenL (z := 24) rfl rfl ?_
                      refine rb_istore (lv' := [some (.ref 48), some (.int 0), some (.int 0), some (.int 24)]) rfl ?_
                      refine rb_goto ?_
                      refine rn_step rfl ?_
                      refine rb_iload rfl ?_
                      refine rb_iload rfl ?_
                      refine rb_cge (fun h => absurd h (by decide)) (fun _ => ?_)
                      refine rb_aload rfl ?_
                      refine rb_iload rfl ?_
                      refine rb_iload rfl ?_
                      refine rb_iast rfl (by decide) (ok_lt (okL.sI (okL.sI s1_ok _ _ _) _ _ _) (c := 48) (n := 24) (by decide) rfl (by decide) (by decide)) (wa_48 _ _) ?_
                      refine rb_iinc (lv' := [some (.ref 48), some (.int 0), some (.int 1), some (.int 24)]) rfl rfl ?_
                      refine rb_goto ?_
                      refine rn_step rfl ?_
                      refine rb_iload rfl ?_
                      refine rb_iload rfl ?_
                      refine rb_cge (fun h => absurd h (by decide)) (fun _ => ?_)
                      refine rb_aload rfl ?_
                      refine rb_iload rfl ?_
                      refine rb_iload rfl ?_
                      refine rb_iast rfl (by decide) (ok_lt (okL.sA (okL.sI (okL.sI s1_ok _ _ _) _ _ _) _ (List.length_set ..)) (c := 48) (n := 24) (by decide) rfl (by decide) (by decide)) (wa_48 _ _) ?_
                      refine rb_iinc (lv' := [some (.ref 48), some (.int 0), some (.int 2), some (.int 24)]) rfl rfl ?_
                      refine rb_goto ?_
                      refine rn_step rfl ?_
                      refine rb_iload rfl ?_
                      refine rb_iload rfl ?_
                      refine rb_cge (fun h => absurd h (by decide)) (fun _ => ?_)
                      refine rb_aload rfl ?_
                      refine rb_iload rfl ?_
                      refine rb_iload rfl ?_
                      refine rb_iast rfl (by decide) (ok_lt (okL.sA (okL.sA (okL.sI (okL.sI s1_ok _ _ _) _ _ _) _ (List.length_set ..)) _ (List.length_set ..)) (c := 48) (n := 24) (by decide) rfl (by decide) (by decide)) (wa_48 _ _) ?_
                      refine rb_iinc (lv' := [some (.ref 48), some (.int 0), some (.int 3), some (.int 24)]) rfl rfl ?_
                      refine rb_goto ?_
                      refine rn_step rfl ?_
                      refine rb_iload rfl ?_
                      refine rb_iload rfl ?_
                      refine rb_cge (fun h => absurd h (by decide)) (fun _ => ?_)
                      refine rb_aload rfl ?_
                      refine rb_iload rfl ?_
                      refine rb_iload rfl ?_
                      refine rb_iast rfl (by decide) (ok_lt (okL.sA (okL.sA (okL.sA (okL.sI (okL.sI s1_ok _ _ _) _ _ _) _ (List.length_set ..)) _ (List.length_set ..)) _ (List.length_set ..)) (c := 48) (n := 24) (by decide) rfl (by decide) (by decide)) (wa_48 _ _) ?_
                      refine rb_iinc (lv' := [some (.ref 48), some (.int 0), some (.int 4), some (.int 24)]) rfl rfl ?_
                      refine rb_goto ?_
                      refine rn_step rfl ?_
                      refine rb_iload rfl ?_
                      refine rb_iload rfl ?_
                      refine rb_cge (fun h => absurd h (by decide)) (fun _ => ?_)
                      refine rb_aload rfl ?_
                      refine rb_iload rfl ?_
                      refine rb_iload rfl ?_
                      refine rb_iast rfl (by decide) (ok_lt (okL.sA (okL.sA (okL.sA (okL.sA (okL.sI (okL.sI s1_ok _ _ _) _ _ _) _ (List.length_set ..)) _ (List.length_set ..)) _ (List.length_set ..)) _ (List.length_set ..)) (c := 48) (n := 24) (by decide) rfl (by decide) (by decide)) (wa_48 _ _) ?_
                      refine rb_iinc (lv' := [some (.ref 48), some (.int 0), some (.int 5), some (.int 24)]) rfl rfl ?_
                      refine rb_goto ?_
                      refine rn_step rfl ?_
                      refine rb_iload rfl ?_
                      refine rb_iload rfl ?_
                      refine rb_cge (fun h => absurd h (by decide)) (fun _ => ?_)
                      refine rb_aload rfl ?_
                      refine rb_iload rfl ?_
                      refine rb_iload rfl ?_
                      refine rb_iast rfl (by decide) (ok_lt (okL.sA (okL.sA (okL.sA (okL.sA (okL.sA (okL.sI (okL.sI s1_ok _ _ _) _ _ _) _ (List.length_set ..)) _ (List.length_set ..)) _ (List.length_set ..)) _ (List.length_set ..)) _ (List.length_set ..)) (c := 48) (n := 24) (by decide) rfl (by decide) (by decide)) (wa_48 _ _) ?_
                      refine rb_iinc (lv' := [some (.ref 48), some (.int 0), some (.int 6), some (.int 24)]) rfl rfl ?_
                      refine rb_goto ?_
                      refine rn_step rfl ?_
                      refine rb_iload rfl ?_
                      refine rb_iload rfl ?_
                      refine rb_cge (fun h => absurd h (by decide)) (fun _ => ?_)
                      refine rb_aload rfl ?_
                      refine rb_iload rfl ?_
                      refine rb_iload rfl ?_
                      refine rb_iast rfl (by decide) (ok_lt (okL.sA (okL.sA (okL.sA (okL.sA (okL.sA (okL.sA (okL.sI (okL.sI s1_ok _ _ _) _ _ _) _ (List.length_set ..)) _ (List.length_set ..)) _ (List.length_set ..)) _ (List.length_set ..)) _ (List.length_set ..)) _ (List.length_set ..)) (c := 48) (n := 24) (by decide) rfl (by decide) (by decide)) (wa_48 _ _) ?_
                      refine rb_iinc (lv' := [some (.ref 48), some (.int 0), some (.int 7), some (.int 24)]) rfl rfl ?_
                      refine rb_goto ?_
                      refine rn_step rfl ?_
                      refine rb_iload rfl ?_
                      refine rb_iload rfl ?_
                      refine rb_cge (fun h => absurd h (by decide)) (fun _ => ?_)
                      refine rb_aload rfl ?_
                      refine rb_iload rfl ?_
                      refine rb_iload rfl ?_
                      refine rb_iast rfl (by decide) (ok_lt (okL.sA (okL.sA (okL.sA (okL.sA (okL.sA (okL.sA (okL.sA (okL.sI (okL.sI s1_ok _ _ _) _ _ _) _ (List.length_set ..)) _ (List.length_set ..)) _ (List.length_set ..)) _ (List.length_set ..)) _ (List.length_set ..)) _ (List.length_set ..)) _ (List.length_set ..)) (c := 48) (n := 24) (by decide) rfl (by decide) (by decide)) (wa_48 _ _) ?_
                      refine rb_iinc (lv' := [some (.ref 48), some (.int 0), some (.int 8), some (.int 24)]) rfl rfl ?_
                      refine rb_goto ?_
                      refine rn_step rfl ?_
                      refine rb_iload rfl ?_
                      refine rb_iload rfl ?_
                      refine rb_cge (fun h => absurd h (by decide)) (fun _ => ?_)
                      refine rb_aload rfl ?_
                      refine rb_iload rfl ?_
                      refine rb_iload rfl ?_
                      refine rb_iast rfl (by decide) (ok_lt (okL.sA (okL.sA (okL.sA (okL.sA (okL.sA (okL.sA (okL.sA (okL.sA (okL.sI (okL.sI s1_ok _ _ _) _ _ _) _ (List.length_set ..)) _ (List.length_set ..)) _ (List.length_set ..)) _ (List.length_set ..)) _ (List.length_set ..)) _ (List.length_set ..)) _ (List.length_set ..)) _ (List.length_set ..)) (c := 48) (n := 24) (by decide) rfl (by decide) (by decide)) (wa_48 _ _) ?_
                      refine rb_iinc (lv' := [some (.ref 48), some (.int 0), some (.int 9), some (.int 24)]) rfl rfl ?_
                      refine rb_goto ?_
                      refine rn_step rfl ?_
                      refine rb_iload rfl ?_
                      refine rb_iload rfl ?_
                      refine rb_cge (fun h => absurd h (by decide)) (fun _ => ?_)
                      refine rb_aload rfl ?_
                      refine rb_iload rfl ?_
                      refine rb_iload rfl ?_
                      refine rb_iast rfl (by decide) (ok_lt (okL.sA (okL.sA (okL.sA (okL.sA (okL.sA (okL.sA (okL.sA (okL.sA (okL.sA (okL.sI (okL.sI s1_ok _ _ _) _ _ _) _ (List.length_set ..)) _ (List.length_set ..)) _ (List.length_set ..)) _ (List.length_set ..)) _ (List.length_set ..)) _ (List.length_set ..)) _ (List.length_set ..)) _ (List.length_set ..)) _ (List.length_set ..)) (c := 48) (n := 24) (by decide) rfl (by decide) (by decide)) (wa_48 _ _) ?_
                      refine rb_iinc (lv' := [some (.ref 48), some (.int 0), some (.int 10), some (.int 24)]) rfl rfl ?_
                      refine rb_goto ?_
                      refine rn_step rfl ?_
                      refine rb_iload rfl ?_
                      refine rb_iload rfl ?_
                      refine rb_cge (fun h => absurd h (by decide)) (fun _ => ?_)
                      refine rb_aload rfl ?_
                      refine rb_iload rfl ?_
                      refine rb_iload rfl ?_
                      refine rb_iast rfl (by decide) (ok_lt (okL.sA (okL.sA (okL.sA (okL.sA (okL.sA (okL.sA (okL.sA (okL.sA (okL.sA (okL.sA (okL.sI (okL.sI s1_ok _ _ _) _ _ _) _ (List.length_set ..)) _ (List.length_set ..)) _ (List.length_set ..)) _ (List.length_set ..)) _ (List.length_set ..)) _ (List.length_set ..)) _ (List.length_set ..)) _ (List.length_set ..)) _ (List.length_set ..)) _ (List.length_set ..)) (c := 48) (n := 24) (by decide) rfl (by decide) (by decide)) (wa_48 _ _) ?_
                      refine rb_iinc (lv' := [some (.ref 48), some (.int 0), some (.int 11), some (.int 24)]) rfl rfl ?_
                      refine rb_goto ?_
                      refine rn_step rfl ?_
                      refine rb_iload rfl ?_
                      refine rb_iload rfl ?_
                      refine rb_cge (fun h => absurd h (by decide)) (fun _ => ?_)
                      refine rb_aload rfl ?_
                      refine rb_iload rfl ?_
                      refine rb_iload rfl ?_
                      refine rb_iast rfl (by decide) (ok_lt (okL.sA (okL.sA (okL.sA (okL.sA (okL.sA (okL.sA (okL.sA (okL.sA (okL.sA (okL.sA (okL.sA (okL.sI (okL.sI s1_ok _ _ _) _ _ _) _ (List.length_set ..)) _ (List.length_set ..)) _ (List.length_set ..)) _ (List.length_set ..)) _ (List.length_set ..)) _ (List.length_set ..)) _ (List.length_set ..)) _ (List.length_set ..)) _ (List.length_set ..)) _ (List.length_set ..)) _ (List.length_set ..)) (c := 48) (n := 24) (by decide) rfl (by decide) (by decide)) (wa_48 _ _) ?_
                      refine rb_iinc (lv' := [some (.ref 48), some (.int 0), some (.int 12), some (.int 24)]) rfl rfl ?_
                      refine rb_goto ?_
                      refine rn_step rfl ?_
                      refine rb_iload rfl ?_
                      refine rb_iload rfl ?_
                      refine rb_cge (fun h => absurd h (by decide)) (fun _ => ?_)
                      refine rb_aload rfl ?_
                      refine rb_iload rfl ?_
                      refine rb_iload rfl ?_
                      refine rb_iast rfl (by decide) (ok_lt (okL.sA (okL.sA (okL.sA (okL.sA (okL.sA (okL.sA (okL.sA (okL.sA (okL.sA (okL.sA (okL.sA (okL.sA (okL.sI (okL.sI s1_ok _ _ _) _ _ _) _ (List.length_set ..)) _ (List.length_set ..)) _ (List.length_set ..)) _ (List.length_set ..)) _ (List.length_set ..)) _ (List.length_set ..)) _ (List.length_set ..)) _ (List.length_set ..)) _ (List.length_set ..)) _ (List.length_set ..)) _ (List.length_set ..)) _ (List.length_set ..)) (c := 48) (n := 24) (by decide) rfl (by decide) (by decide)) (wa_48 _ _) ?_
                      refine rb_iinc (lv' := [some (.ref 48), some (.int 0), some (.int 13), some (.int 24)]) rfl rfl ?_
                      refine rb_goto ?_
                      refine rn_step rfl ?_
                      refine rb_iload rfl ?_
                      refine rb_iload rfl ?_
                      refine rb_cge (fun h => absurd h (by decide)) (fun _ => ?_)
                      refine rb_aload rfl ?_
                      refine rb_iload rfl ?_
                      refine rb_iload rfl ?_
                      refine rb_iast rfl (by decide) (ok_lt (okL.sA (okL.sA (okL.sA (okL.sA (okL.sA (okL.sA (okL.sA (okL.sA (okL.sA (okL.sA (okL.sA (okL.sA (okL.sA (okL.sI (okL.sI s1_ok _ _ _) _ _ _) _ (List.length_set ..)) _ (List.length_set ..)) _ (List.length_set ..)) _ (List.length_set ..)) _ (List.length_set ..)) _ (List.length_set ..)) _ (List.length_set ..)) _ (List.length_set ..)) _ (List.length_set ..)) _ (List.length_set ..)) _ (List.length_set ..)) _ (List.length_set ..)) _ (List.length_set ..)) (c := 48) (n := 24) (by decide) rfl (by decide) (by decide)) (wa_48 _ _) ?_
                      refine rb_iinc (lv' := [some (.ref 48), some (.int 0), some (.int 14), some (.int 24)]) rfl rfl ?_
                      refine rb_goto ?_
                      refine rn_step rfl ?_
                      refine rb_iload rfl ?_
                      refine rb_iload rfl ?_
                      refine rb_cge (fun h => absurd h (by decide)) (fun _ => ?_)
                      refine rb_aload rfl ?_
                      refine rb_iload rfl ?_
                      refine rb_iload rfl ?_
                      refine rb_iast rfl (by decide) (ok_lt (okL.sA (okL.sA (okL.sA (okL.sA (okL.sA (okL.sA (okL.sA (okL.sA (okL.sA (okL.sA (okL.sA (okL.sA (okL.sA (okL.sA (okL.sI (okL.sI s1_ok _ _ _) _ _ _) _ (List.length_set ..)) _ (List.length_set ..)) _ (List.length_set ..)) _ (List.length_set ..)) _ (List.length_set ..)) _ (List.length_set ..)) _ (List.length_set ..)) _ (List.length_set ..)) _ (List.length_set ..)) _ (List.length_set ..)) _ (List.length_set ..)) _ (List.length_set ..)) _ (List.length_set ..)) _ (List.length_set ..)) (c := 48) (n := 24) (by decide) rfl (by decide) (by decide)) (wa_48 _ _) ?_
                      refine rb_iinc (lv' := [some (.ref 48), some (.int 0), some (.int 15), some (.int 24)]) rfl rfl ?_
                      refine rb_goto ?_
                      refine rn_step rfl ?_
                      refine rb_iload rfl ?_
                      refine rb_iload rfl ?_
                      refine rb_cge (fun h => absurd h (by decide)) (fun _ => ?_)
                      refine rb_aload rfl ?_
                      refine rb_iload rfl ?_
                      refine rb_iload rfl ?_
                      refine rb_iast rfl (by decide) (ok_lt (okL.sA (okL.sA (okL.sA (okL.sA (okL.sA (okL.sA (okL.sA (okL.sA (okL.sA (okL.sA (okL.sA (okL.sA (okL.sA (okL.sA (okL.sA (okL.sI (okL.sI s1_ok _ _ _) _ _ _) _ (List.length_set ..)) _ (List.length_set ..)) _ (List.length_set ..)) _ (List.length_set ..)) _ (List.length_set ..)) _ (List.length_set ..)) _ (List.length_set ..)) _ (List.length_set ..)) _ (List.length_set ..)) _ (List.length_set ..)) _ (List.length_set ..)) _ (List.length_set ..)) _ (List.length_set ..)) _ (List.length_set ..)) _ (List.length_set ..)) (c := 48) (n := 24) (by decide) rfl (by decide) (by decide)) (wa_48 _ _) ?_
                      refine rb_iinc (lv' := [some (.ref 48), some (.int 0), some (.int 16), some (.int 24)]) rfl rfl ?_
                      refine rb_goto ?_
                      refine rn_step rfl ?_
                      refine rb_iload rfl ?_
                      refine rb_iload rfl ?_
                      refine rb_cge (fun h => absurd h (by decide)) (fun _ => ?_)
                      refine rb_aload rfl ?_
                      refine rb_iload rfl ?_
                      refine rb_iload rfl ?_
                      refine rb_iast rfl (by decide) (ok_lt (okL.sA (okL.sA (okL.sA (okL.sA (okL.sA (okL.sA (okL.sA (okL.sA (okL.sA (okL.sA (okL.sA (okL.sA (okL.sA (okL.sA (okL.sA (okL.sA (okL.sI (okL.sI s1_ok _ _ _) _ _ _) _ (List.length_set ..)) _ (List.length_set ..)) _ (List.length_set ..)) _ (List.length_set ..)) _ (List.length_set ..)) _ (List.length_set ..)) _ (List.length_set ..)) _ (List.length_set ..)) _ (List.length_set ..)) _ (List.length_set ..)) _ (List.length_set ..)) _ (List.length_set ..)) _ (List.length_set ..)) _ (List.length_set ..)) _ (List.length_set ..)) _ (List.length_set ..)) (c := 48) (n := 24) (by decide) rfl (by decide) (by decide)) (wa_48 _ _) ?_
                      refine rb_iinc (lv' := [some (.ref 48), some (.int 0), some (.int 17), some (.int 24)]) rfl rfl ?_
                      refine rb_goto ?_
                      refine rn_step rfl ?_
                      refine rb_iload rfl ?_
                      refine rb_iload rfl ?_
                      refine rb_cge (fun h => absurd h (by decide)) (fun _ => ?_)
                      refine rb_aload rfl ?_
                      refine rb_iload rfl ?_
                      refine rb_iload rfl ?_
                      refine rb_iast rfl (by decide) (ok_lt (okL.sA (okL.sA (okL.sA (okL.sA (okL.sA (okL.sA (okL.sA (okL.sA (okL.sA (okL.sA (okL.sA (okL.sA (okL.sA (okL.sA (okL.sA (okL.sA (okL.sA (okL.sI (okL.sI s1_ok _ _ _) _ _ _) _ (List.length_set ..)) _ (List.length_set ..)) _ (List.length_set ..)) _ (List.length_set ..)) _ (List.length_set ..)) _ (List.length_set ..)) _ (List.length_set ..)) _ (List.length_set ..)) _ (List.length_set ..)) _ (List.length_set ..)) _ (List.length_set ..)) _ (List.length_set ..)) _ (List.length_set ..)) _ (List.length_set ..)) _ (List.length_set ..)) _ (List.length_set ..)) _ (List.length_set ..)) (c := 48) (n := 24) (by decide) rfl (by decide) (by decide)) (wa_48 _ _) ?_
                      refine rb_iinc (lv' := [some (.ref 48), some (.int 0), some (.int 18), some (.int 24)]) rfl rfl ?_
                      refine rb_goto ?_
                      refine rn_step rfl ?_
                      refine rb_iload rfl ?_
                      refine rb_iload rfl ?_
                      refine rb_cge (fun h => absurd h (by decide)) (fun _ => ?_)
                      refine rb_aload rfl ?_
                      refine rb_iload rfl ?_
                      refine rb_iload rfl ?_
                      refine rb_iast rfl (by decide) (ok_lt (okL.sA (okL.sA (okL.sA (okL.sA (okL.sA (okL.sA (okL.sA (okL.sA (okL.sA (okL.sA (okL.sA (okL.sA (okL.sA (okL.sA (okL.sA (okL.sA (okL.sA (okL.sA (okL.sI (okL.sI s1_ok _ _ _) _ _ _) _ (List.length_set ..)) _ (List.length_set ..)) _ (List.length_set ..)) _ (List.length_set ..)) _ (List.length_set ..)) _ (List.length_set ..)) _ (List.length_set ..)) _ (List.length_set ..)) _ (List.length_set ..)) _ (List.length_set ..)) _ (List.length_set ..)) _ (List.length_set ..)) _ (List.length_set ..)) _ (List.length_set ..)) _ (List.length_set ..)) _ (List.length_set ..)) _ (List.length_set ..)) _ (List.length_set ..)) (c := 48) (n := 24) (by decide) rfl (by decide) (by decide)) (wa_48 _ _) ?_
                      refine rb_iinc (lv' := [some (.ref 48), some (.int 0), some (.int 19), some (.int 24)]) rfl rfl ?_
                      refine rb_goto ?_
                      refine rn_step rfl ?_
                      refine rb_iload rfl ?_
                      refine rb_iload rfl ?_
                      refine rb_cge (fun h => absurd h (by decide)) (fun _ => ?_)
                      refine rb_aload rfl ?_
                      refine rb_iload rfl ?_
                      refine rb_iload rfl ?_
                      refine rb_iast rfl (by decide) (ok_lt (okL.sA (okL.sA (okL.sA (okL.sA (okL.sA (okL.sA (okL.sA (okL.sA (okL.sA (okL.sA (okL.sA (okL.sA (okL.sA (okL.sA (okL.sA (okL.sA (okL.sA (okL.sA (okL.sA (okL.sI (okL.sI s1_ok _ _ _) _ _ _) _ (List.length_set ..)) _ (List.length_set ..)) _ (List.length_set ..)) _ (List.length_set ..)) _ (List.length_set ..)) _ (List.length_set ..)) _ (List.length_set ..)) _ (List.length_set ..)) _ (List.length_set ..)) _ (List.length_set ..)) _ (List.length_set ..)) _ (List.length_set ..)) _ (List.length_set ..)) _ (List.length_set ..)) _ (List.length_set ..)) _ (List.length_set ..)) _ (List.length_set ..)) _ (List.length_set ..)) _ (List.length_set ..)) (c := 48) (n := 24) (by decide) rfl (by decide) (by decide)) (wa_48 _ _) ?_
                      refine rb_iinc (lv' := [some (.ref 48), some (.int 0), some (.int 20), some (.int 24)]) rfl rfl ?_
                      refine rb_goto ?_
                      refine rn_step rfl ?_
                      refine rb_iload rfl ?_
                      refine rb_iload rfl ?_
                      refine rb_cge (fun h => absurd h (by decide)) (fun _ => ?_)
                      refine rb_aload rfl ?_
                      refine rb_iload rfl ?_
                      refine rb_iload rfl ?_
                      refine rb_iast rfl (by decide) (ok_lt (okL.sA (okL.sA (okL.sA (okL.sA (okL.sA (okL.sA (okL.sA (okL.sA (okL.sA (okL.sA (okL.sA (okL.sA (okL.sA (okL.sA (okL.sA (okL.sA (okL.sA (okL.sA (okL.sA (okL.sA (okL.sI (okL.sI s1_ok _ _ _) _ _ _) _ (List.length_set ..)) _ (List.length_set ..)) _ (List.length_set ..)) _ (List.length_set ..)) _ (List.length_set ..)) _ (List.length_set ..)) _ (List.length_set ..)) _ (List.length_set ..)) _ (List.length_set ..)) _ (List.length_set ..)) _ (List.length_set ..)) _ (List.length_set ..)) _ (List.length_set ..)) _ (List.length_set ..)) _ (List.length_set ..)) _ (List.length_set ..)) _ (List.length_set ..)) _ (List.length_set ..)) _ (List.length_set ..)) _ (List.length_set ..)) (c := 48) (n := 24) (by decide) rfl (by decide) (by decide)) (wa_48 _ _) ?_
                      refine rb_iinc (lv' := [some (.ref 48), some (.int 0), some (.int 21), some (.int 24)]) rfl rfl ?_
                      refine rb_goto ?_
                      refine rn_step rfl ?_
                      refine rb_iload rfl ?_
                      refine rb_iload rfl ?_
                      refine rb_cge (fun h => absurd h (by decide)) (fun _ => ?_)
                      refine rb_aload rfl ?_
                      refine rb_iload rfl ?_
                      refine rb_iload rfl ?_
                      refine rb_iast rfl (by decide) (ok_lt (okL.sA (okL.sA (okL.sA (okL.sA (okL.sA (okL.sA (okL.sA (okL.sA (okL.sA (okL.sA (okL.sA (okL.sA (okL.sA (okL.sA (okL.sA (okL.sA (okL.sA (okL.sA (okL.sA (okL.sA (okL.sA (okL.sI (okL.sI s1_ok _ _ _) _ _ _) _ (List.length_set ..)) _ (List.length_set ..)) _ (List.length_set ..)) _ (List.length_set ..)) _ (List.length_set ..)) _ (List.length_set ..)) _ (List.length_set ..)) _ (List.length_set ..)) _ (List.length_set ..)) _ (List.length_set ..)) _ (List.length_set ..)) _ (List.length_set ..)) _ (List.length_set ..)) _ (List.length_set ..)) _ (List.length_set ..)) _ (List.length_set ..)) _ (List.length_set ..)) _ (List.length_set ..)) _ (List.length_set ..)) _ (List.length_set ..)) _ (List.length_set ..)) (c := 48) (n := 24) (by decide) rfl (by decide) (by decide)) (wa_48 _ _) ?_
                      refine rb_iinc (lv' := [some (.ref 48), some (.int 0), some (.int 22), some (.int 24)]) rfl rfl ?_
                      refine rb_goto ?_
                      refine rn_step rfl ?_
                      refine rb_iload rfl ?_
                      refine rb_iload rfl ?_
                      refine rb_cge (fun h => absurd h (by decide)) (fun _ => ?_)
                      refine rb_aload rfl ?_
                      refine rb_iload rfl ?_
                      refine rb_iload rfl ?_
                      refine rb_iast rfl (by decide) (ok_lt (okL.sA (okL.sA (okL.sA (okL.sA (okL.sA (okL.sA (okL.sA (okL.sA (okL.sA (okL.sA (okL.sA (okL.sA (okL.sA (okL.sA (okL.sA (okL.sA (okL.sA (okL.sA (okL.sA (okL.sA (okL.sA (okL.sA (okL.sI (okL.sI s1_ok _ _ _) _ _ _) _ (List.length_set ..)) _ (List.length_set ..)) _ (List.length_set ..)) _ (List.length_set ..)) _ (List.length_set ..)) _ (List.length_set ..)) _ (List.length_set ..)) _ (List.length_set ..)) _ (List.length_set ..)) _ (List.length_set ..)) _ (List.length_set ..)) _ (List.length_set ..)) _ (List.length_set ..)) _ (List.length_set ..)) _ (List.length_set ..)) _ (List.length_set ..)) _ (List.length_set ..)) _ (List.length_set ..)) _ (List.length_set ..)) _ (List.length_set ..)) _ (List.length_set ..)) _ (List.length_set ..)) (c := 48) (n := 24) (by decide) rfl (by decide) (by decide)) (wa_48 _ _) ?_
                      refine rb_iinc (lv' := [some (.ref 48), some (.int 0), some (.int 23), some (.int 24)]) rfl rfl ?_
                      refine rb_goto ?_
                      refine rn_step rfl ?_
                      refine rb_iload rfl ?_
                      refine rb_iload rfl ?_
                      refine rb_cge (fun h => absurd h (by decide)) (fun _ => ?_)
                      refine rb_aload rfl ?_
                      refine rb_iload rfl ?_
                      refine rb_iload rfl ?_
                      refine rb_iast rfl (by decide) (ok_lt (okL.sA (okL.sA (okL.sA (okL.sA (okL.sA (okL.sA (okL.sA (okL.sA (okL.sA (okL.sA (okL.sA (okL.sA (okL.sA (okL.sA (okL.sA (okL.sA (okL.sA (okL.sA (okL.sA (okL.sA (okL.sA (okL.sA (okL.sA (okL.sI (okL.sI s1_ok _ _ _) _ _ _) _ (List.length_set ..)) _ (List.length_set ..)) _ (List.length_set ..)) _ (List.length_set ..)) _ (List.length_set ..)) _ (List.length_set ..)) _ (List.length_set ..)) _ (List.length_set ..)) _ (List.length_set ..)) _ (List.length_set ..)) _ (List.length_set ..)) _ (List.length_set ..)) _ (List.length_set ..)) _ (List.length_set ..)) _ (List.length_set ..)) _ (List.length_set ..)) _ (List.length_set ..)) _ (List.length_set ..)) _ (List.length_set ..)) _ (List.length_set ..)) _ (List.length_set ..)) _ (List.length_set ..)) _ (List.length_set ..)) (c := 48) (n := 24) (by decide) rfl (by decide) (by decide)) (wa_48 _ _) ?_
                      refine rb_iinc (lv' := [some (.ref 48), some (.int 0), some (.int 24), some (.int 24)]) rfl rfl ?_
                      refine rb_goto ?_
                      refine rn_step rfl ?_
                      refine rb_iload rfl ?_
                      refine rb_iload rfl ?_
                      refine rb_cge (fun _ => ?_) (fun h => absurd (by decide) h)
                      refine rn_step rfl ?_
                      refine rb_retv rfl
                    refine rb_retv rfl
                  refine rb_push ?_
                  refine rb_ret rfl rfl
                case h2 =>
                  apply ex_X9_sheet
                  refine rn_step rfl ?_
                  refine rb_iload rfl ?_
                  apply rb_callS1
                  case hcl => exact rfl
                  case hc =>
                    apply ex_X9_isSheet
                    refine rn_step rfl ?_
                    refine rb_iload rfl ?_
                    refine rb_push ?_
                    refine rb_push ?_
                    apply rb_callS3
                    case hcl => exact rfl
                    case hc =>
                      apply ex_X9_in
                      refine rn_step rfl ?_
                      refine rb_iload rfl ?_
                      refine rb_iload rfl ?_
                      refine rb_clt (fun h => absurd h (by decide)) (fun _ => ?_)
                      refine rb_iload rfl ?_
                      refine rb_iload rfl ?_
                      refine rb_cgt (fun h => absurd h (by decide)) (fun _ => ?_)
                      refine rb_push ?_
                      refine rb_goto ?_
                      refine rn_step rfl ?_
                      refine rb_ret rfl rfl
                    refine rb_ret rfl rfl
                  refine rb_ieq (fun h => absurd h (by decide)) (fun _ => ?_)
                  refine rb_iload rfl ?_
                  refine rb_push ?_
                  refine rb_push ?_
                  apply rb_callS3
                  case hcl => exact rfl
                  case hc =>
                    apply ex_X9_in
                    refine rn_step rfl ?_
                    refine rb_iload rfl ?_
                    refine rb_iload rfl ?_
                    refine rb_clt (fun h => absurd h (by decide)) (fun _ => ?_)
                    refine rb_iload rfl ?_
                    refine rb_iload rfl ?_
                    refine rb_cgt (fun h => absurd h (by decide)) (fun _ => ?_)
                    refine rb_push ?_
                    refine rb_goto ?_
                    refine rn_step rfl ?_
                    refine rb_ret rfl rfl
                  refine rb_ieq (fun h => absurd h (by decide)) (fun _ => ?_)
                  refine rb_iload rfl ?_
                  refine rb_ilt (fun _ => ?_) (fun h => absurd (by decide) h)
                  refine rn_step rfl ?_
                  refine rb_iload rfl ?_
                  refine rb_ilt (fun _ => ?_) (fun h => absurd (by decide) h)
                  refine rn_step rfl ?_
                  refine rb_aload rfl ?_
                  refine rb_getf (v := .ref 83) rfl ?_
                  refine rb_iload rfl ?_
                  refine rb_iload rfl ?_
                  refine rb_iast rfl (by decide) (ok_lt (okL.sA (okL.sA (okL.sA (okL.sA (okL.sA (okL.sA (okL.sA (okL.sA (okL.sA (okL.sA (okL.sA (okL.sA (okL.sA (okL.sA (okL.sA (okL.sA (okL.sA (okL.sA (okL.sA (okL.sA (okL.sA (okL.sA (okL.sA (okL.sA (okL.sI (okL.sI s1_ok _ _ _) _ _ _) _ (List.length_set ..)) _ (List.length_set ..)) _ (List.length_set ..)) _ (List.length_set ..)) _ (List.length_set ..)) _ (List.length_set ..)) _ (List.length_set ..)) _ (List.length_set ..)) _ (List.length_set ..)) _ (List.length_set ..)) _ (List.length_set ..)) _ (List.length_set ..)) _ (List.length_set ..)) _ (List.length_set ..)) _ (List.length_set ..)) _ (List.length_set ..)) _ (List.length_set ..)) _ (List.length_set ..)) _ (List.length_set ..)) _ (List.length_set ..)) _ (List.length_set ..)) _ (List.length_set ..)) _ (List.length_set ..)) _ (List.length_set ..)) (c := 83) (n := 4) (by decide) rfl (by decide) (by decide)) (wa_83 _ _) ?_
                  refine rb_aload rfl ?_
                  refine rb_getf (v := .ref 84) rfl ?_
                  refine rb_iload rfl ?_
                  refine rb_iload rfl ?_
                  refine rb_ige (fun h => absurd h (by decide)) (fun _ => ?_)
                  refine rb_push ?_
                  refine rb_goto ?_
                  refine rn_step rfl ?_
                  refine rb_iast rfl (by decide) (ok_lt (okL.sA (okL.sA (okL.sA (okL.sA (okL.sA (okL.sA (okL.sA (okL.sA (okL.sA (okL.sA (okL.sA (okL.sA (okL.sA (okL.sA (okL.sA (okL.sA (okL.sA (okL.sA (okL.sA (okL.sA (okL.sA (okL.sA (okL.sA (okL.sA (okL.sA (okL.sI (okL.sI s1_ok _ _ _) _ _ _) _ (List.length_set ..)) _ (List.length_set ..)) _ (List.length_set ..)) _ (List.length_set ..)) _ (List.length_set ..)) _ (List.length_set ..)) _ (List.length_set ..)) _ (List.length_set ..)) _ (List.length_set ..)) _ (List.length_set ..)) _ (List.length_set ..)) _ (List.length_set ..)) _ (List.length_set ..)) _ (List.length_set ..)) _ (List.length_set ..)) _ (List.length_set ..)) _ (List.length_set ..)) _ (List.length_set ..)) _ (List.length_set ..)) _ (List.length_set ..)) _ (List.length_set ..)) _ (List.length_set ..)) _ (List.length_set ..)) _ (List.length_set ..)) _ (List.length_set ..)) (c := 84) (n := 4) (by decide) rfl (by decide) (by decide)) (wa_84 _ _) ?_
                  refine rb_push ?_
                  refine rb_istore (lv' := [some (.ref 68), some (.int 1), some (.int (-1)), some (.int (c)), some (.int 0)]) rfl ?_
                  refine rb_goto ?_
                  refine rn_step rfl ?_
                  refine rb_iload rfl ?_
                  refine rb_push ?_
                  refine rb_cge (fun h => absurd h (by decide)) (fun _ => ?_)
                  refine rb_aload rfl ?_
                  refine rb_getf (v := .ref 85) rfl ?_
                  refine rb_push ?_
                  refine rb_iload rfl ?_
                  refine rb_binL (z := 24) (by decide) ?_
                  refine rb_iload rfl ?_
                  refine rb_binL (z := 24) (by decide) ?_
                  refine rb_push ?_
                  refine rb_iast rfl (by decide) (ok_lt (okL.sA (okL.sA (okL.sA (okL.sA (okL.sA (okL.sA (okL.sA (okL.sA (okL.sA (okL.sA (okL.sA (okL.sA (okL.sA (okL.sA (okL.sA (okL.sA (okL.sA (okL.sA (okL.sA (okL.sA (okL.sA (okL.sA (okL.sA (okL.sA (okL.sA (okL.sA (okL.sI (okL.sI s1_ok _ _ _) _ _ _) _ (List.length_set ..)) _ (List.length_set ..)) _ (List.length_set ..)) _ (List.length_set ..)) _ (List.length_set ..)) _ (List.length_set ..)) _ (List.length_set ..)) _ (List.length_set ..)) _ (List.length_set ..)) _ (List.length_set ..)) _ (List.length_set ..)) _ (List.length_set ..)) _ (List.length_set ..)) _ (List.length_set ..)) _ (List.length_set ..)) _ (List.length_set ..)) _ (List.length_set ..)) _ (List.length_set ..)) _ (List.length_set ..)) _ (List.length_set ..)) _ (List.length_set ..)) _ (List.length_set ..)) _ (List.length_set ..)) _ (List.length_set ..)) _ (List.length_set ..)) _ (List.length_set ..)) (c := 85) (n := 96) (by decide) rfl (by decide) (by decide)) (wa_85 _ _) ?_
                  refine rb_iinc (lv' := [some (.ref 68), some (.int 1), some (.int (-1)), some (.int (c)), some (.int 1)]) rfl rfl ?_
                  refine rb_goto ?_
                  refine rn_step rfl ?_
                  refine rb_iload rfl ?_
                  refine rb_push ?_
                  refine rb_cge (fun h => absurd h (by decide)) (fun _ => ?_)
                  refine rb_aload rfl ?_
                  refine rb_getf (v := .ref 85) rfl ?_
                  refine rb_push ?_
                  refine rb_iload rfl ?_
                  refine rb_binL (z := 24) (by decide) ?_
                  refine rb_iload rfl ?_
                  refine rb_binL (z := 25) (by decide) ?_
                  refine rb_push ?_
                  refine rb_iast rfl (by decide) (ok_lt (okL.sA (okL.sA (okL.sA (okL.sA (okL.sA (okL.sA (okL.sA (okL.sA (okL.sA (okL.sA (okL.sA (okL.sA (okL.sA (okL.sA (okL.sA (okL.sA (okL.sA (okL.sA (okL.sA (okL.sA (okL.sA (okL.sA (okL.sA (okL.sA (okL.sA (okL.sA (okL.sA (okL.sI (okL.sI s1_ok _ _ _) _ _ _) _ (List.length_set ..)) _ (List.length_set ..)) _ (List.length_set ..)) _ (List.length_set ..)) _ (List.length_set ..)) _ (List.length_set ..)) _ (List.length_set ..)) _ (List.length_set ..)) _ (List.length_set ..)) _ (List.length_set ..)) _ (List.length_set ..)) _ (List.length_set ..)) _ (List.length_set ..)) _ (List.length_set ..)) _ (List.length_set ..)) _ (List.length_set ..)) _ (List.length_set ..)) _ (List.length_set ..)) _ (List.length_set ..)) _ (List.length_set ..)) _ (List.length_set ..)) _ (List.length_set ..)) _ (List.length_set ..)) _ (List.length_set ..)) _ (List.length_set ..)) _ (List.length_set ..)) _ (List.length_set ..)) (c := 85) (n := 96) (by decide) rfl (by decide) (by decide)) (wa_85 _ _) ?_
                  refine rb_iinc (lv' := [some (.ref 68), some (.int 1), some (.int (-1)), some (.int (c)), some (.int 2)]) rfl rfl ?_
                  refine rb_goto ?_
                  refine rn_step rfl ?_
                  refine rb_iload rfl ?_
                  refine rb_push ?_
                  refine rb_cge (fun h => absurd h (by decide)) (fun _ => ?_)
                  refine rb_aload rfl ?_
                  refine rb_getf (v := .ref 85) rfl ?_
                  refine rb_push ?_
                  refine rb_iload rfl ?_
                  refine rb_binL (z := 24) (by decide) ?_
                  refine rb_iload rfl ?_
                  refine rb_binL (z := 26) (by decide) ?_
                  refine rb_push ?_
                  refine rb_iast rfl (by decide) (ok_lt (okL.sA (okL.sA (okL.sA (okL.sA (okL.sA (okL.sA (okL.sA (okL.sA (okL.sA (okL.sA (okL.sA (okL.sA (okL.sA (okL.sA (okL.sA (okL.sA (okL.sA (okL.sA (okL.sA (okL.sA (okL.sA (okL.sA (okL.sA (okL.sA (okL.sA (okL.sA (okL.sA (okL.sA (okL.sI (okL.sI s1_ok _ _ _) _ _ _) _ (List.length_set ..)) _ (List.length_set ..)) _ (List.length_set ..)) _ (List.length_set ..)) _ (List.length_set ..)) _ (List.length_set ..)) _ (List.length_set ..)) _ (List.length_set ..)) _ (List.length_set ..)) _ (List.length_set ..)) _ (List.length_set ..)) _ (List.length_set ..)) _ (List.length_set ..)) _ (List.length_set ..)) _ (List.length_set ..)) _ (List.length_set ..)) _ (List.length_set ..)) _ (List.length_set ..)) _ (List.length_set ..)) _ (List.length_set ..)) _ (List.length_set ..)) _ (List.length_set ..)) _ (List.length_set ..)) _ (List.length_set ..)) _ (List.length_set ..)) _ (List.length_set ..)) _ (List.length_set ..)) _ (List.length_set ..)) (c := 85) (n := 96) (by decide) rfl (by decide) (by decide)) (wa_85 _ _) ?_
                  refine rb_iinc (lv' := [some (.ref 68), some (.int 1), some (.int (-1)), some (.int (c)), some (.int 3)]) rfl rfl ?_
                  refine rb_goto ?_
                  refine rn_step rfl ?_
                  refine rb_iload rfl ?_
                  refine rb_push ?_
                  refine rb_cge (fun h => absurd h (by decide)) (fun _ => ?_)
                  refine rb_aload rfl ?_
                  refine rb_getf (v := .ref 85) rfl ?_
                  refine rb_push ?_
                  refine rb_iload rfl ?_
                  refine rb_binL (z := 24) (by decide) ?_
                  refine rb_iload rfl ?_
                  refine rb_binL (z := 27) (by decide) ?_
                  refine rb_push ?_
                  refine rb_iast rfl (by decide) (ok_lt (okL.sA (okL.sA (okL.sA (okL.sA (okL.sA (okL.sA (okL.sA (okL.sA (okL.sA (okL.sA (okL.sA (okL.sA (okL.sA (okL.sA (okL.sA (okL.sA (okL.sA (okL.sA (okL.sA (okL.sA (okL.sA (okL.sA (okL.sA (okL.sA (okL.sA (okL.sA (okL.sA (okL.sA (okL.sA (okL.sI (okL.sI s1_ok _ _ _) _ _ _) _ (List.length_set ..)) _ (List.length_set ..)) _ (List.length_set ..)) _ (List.length_set ..)) _ (List.length_set ..)) _ (List.length_set ..)) _ (List.length_set ..)) _ (List.length_set ..)) _ (List.length_set ..)) _ (List.length_set ..)) _ (List.length_set ..)) _ (List.length_set ..)) _ (List.length_set ..)) _ (List.length_set ..)) _ (List.length_set ..)) _ (List.length_set ..)) _ (List.length_set ..)) _ (List.length_set ..)) _ (List.length_set ..)) _ (List.length_set ..)) _ (List.length_set ..)) _ (List.length_set ..)) _ (List.length_set ..)) _ (List.length_set ..)) _ (List.length_set ..)) _ (List.length_set ..)) _ (List.length_set ..)) _ (List.length_set ..)) _ (List.length_set ..)) (c := 85) (n := 96) (by decide) rfl (by decide) (by decide)) (wa_85 _ _) ?_
                  refine rb_iinc (lv' := [some (.ref 68), some (.int 1), some (.int (-1)), some (.int (c)), some (.int 4)]) rfl rfl ?_
                  refine rb_goto ?_
                  refine rn_step rfl ?_
                  refine rb_iload rfl ?_
                  refine rb_push ?_
                  refine rb_cge (fun h => absurd h (by decide)) (fun _ => ?_)
                  refine rb_aload rfl ?_
                  refine rb_getf (v := .ref 85) rfl ?_
                  refine rb_push ?_
                  refine rb_iload rfl ?_
                  refine rb_binL (z := 24) (by decide) ?_
                  refine rb_iload rfl ?_
                  refine rb_binL (z := 28) (by decide) ?_
                  refine rb_push ?_
                  refine rb_iast rfl (by decide) (ok_lt (okL.sA (okL.sA (okL.sA (okL.sA (okL.sA (okL.sA (okL.sA (okL.sA (okL.sA (okL.sA (okL.sA (okL.sA (okL.sA (okL.sA (okL.sA (okL.sA (okL.sA (okL.sA (okL.sA (okL.sA (okL.sA (okL.sA (okL.sA (okL.sA (okL.sA (okL.sA (okL.sA (okL.sA (okL.sA (okL.sA (okL.sI (okL.sI s1_ok _ _ _) _ _ _) _ (List.length_set ..)) _ (List.length_set ..)) _ (List.length_set ..)) _ (List.length_set ..)) _ (List.length_set ..)) _ (List.length_set ..)) _ (List.length_set ..)) _ (List.length_set ..)) _ (List.length_set ..)) _ (List.length_set ..)) _ (List.length_set ..)) _ (List.length_set ..)) _ (List.length_set ..)) _ (List.length_set ..)) _ (List.length_set ..)) _ (List.length_set ..)) _ (List.length_set ..)) _ (List.length_set ..)) _ (List.length_set ..)) _ (List.length_set ..)) _ (List.length_set ..)) _ (List.length_set ..)) _ (List.length_set ..)) _ (List.length_set ..)) _ (List.length_set ..)) _ (List.length_set ..)) _ (List.length_set ..)) _ (List.length_set ..)) _ (List.length_set ..)) _ (List.length_set ..)) (c := 85) (n := 96) (by decide) rfl (by decide) (by decide)) (wa_85 _ _) ?_
                  refine rb_iinc (lv' := [some (.ref 68), some (.int 1), some (.int (-1)), some (.int (c)), some (.int 5)]) rfl rfl ?_
                  refine rb_goto ?_
                  refine rn_step rfl ?_
                  refine rb_iload rfl ?_
                  refine rb_push ?_
                  refine rb_cge (fun h => absurd h (by decide)) (fun _ => ?_)
                  refine rb_aload rfl ?_
                  refine rb_getf (v := .ref 85) rfl ?_
                  refine rb_push ?_
                  refine rb_iload rfl ?_
                  refine rb_binL (z := 24) (by decide) ?_
                  refine rb_iload rfl ?_
                  refine rb_binL (z := 29) (by decide) ?_
                  refine rb_push ?_
                  refine rb_iast rfl (by decide) (ok_lt (okL.sA (okL.sA (okL.sA (okL.sA (okL.sA (okL.sA (okL.sA (okL.sA (okL.sA (okL.sA (okL.sA (okL.sA (okL.sA (okL.sA (okL.sA (okL.sA (okL.sA (okL.sA (okL.sA (okL.sA (okL.sA (okL.sA (okL.sA (okL.sA (okL.sA (okL.sA (okL.sA (okL.sA (okL.sA (okL.sA (okL.sA (okL.sI (okL.sI s1_ok _ _ _) _ _ _) _ (List.length_set ..)) _ (List.length_set ..)) _ (List.length_set ..)) _ (List.length_set ..)) _ (List.length_set ..)) _ (List.length_set ..)) _ (List.length_set ..)) _ (List.length_set ..)) _ (List.length_set ..)) _ (List.length_set ..)) _ (List.length_set ..)) _ (List.length_set ..)) _ (List.length_set ..)) _ (List.length_set ..)) _ (List.length_set ..)) _ (List.length_set ..)) _ (List.length_set ..)) _ (List.length_set ..)) _ (List.length_set ..)) _ (List.length_set ..)) _ (List.length_set ..)) _ (List.length_set ..)) _ (List.length_set ..)) _ (List.length_set ..)) _ (List.length_set ..)) _ (List.length_set ..)) _ (List.length_set ..)) _ (List.length_set ..)) _ (List.length_set ..)) _ (List.length_set ..)) _ (List.length_set ..)) (c := 85) (n := 96) (by decide) rfl (by decide) (by decide)) (wa_85 _ _) ?_
                  refine rb_iinc (lv' := [some (.ref 68), some (.int 1), some (.int (-1)), some (.int (c)), some (.int 6)]) rfl rfl ?_
                  refine rb_goto ?_
                  refine rn_step rfl ?_
                  refine rb_iload rfl ?_
                  refine rb_push ?_
                  refine rb_cge (fun h => absurd h (by decide)) (fun _ => ?_)
                  refine rb_aload rfl ?_
                  refine rb_getf (v := .ref 85) rfl ?_
                  refine rb_push ?_
                  refine rb_iload rfl ?_
                  refine rb_binL (z := 24) (by decide) ?_
                  refine rb_iload rfl ?_
                  refine rb_binL (z := 30) (by decide) ?_
                  refine rb_push ?_
                  refine rb_iast rfl (by decide) (ok_lt (okL.sA (okL.sA (okL.sA (okL.sA (okL.sA (okL.sA (okL.sA (okL.sA (okL.sA (okL.sA (okL.sA (okL.sA (okL.sA (okL.sA (okL.sA (okL.sA (okL.sA (okL.sA (okL.sA (okL.sA (okL.sA (okL.sA (okL.sA (okL.sA (okL.sA (okL.sA (okL.sA (okL.sA (okL.sA (okL.sA (okL.sA (okL.sA (okL.sI (okL.sI s1_ok _ _ _) _ _ _) _ (List.length_set ..)) _ (List.length_set ..)) _ (List.length_set ..)) _ (List.length_set ..)) _ (List.length_set ..)) _ (List.length_set ..)) _ (List.length_set ..)) _ (List.length_set ..)) _ (List.length_set ..)) _ (List.length_set ..)) _ (List.length_set ..)) _ (List.length_set ..)) _ (List.length_set ..)) _ (List.length_set ..)) _ (List.length_set ..)) _ (List.length_set ..)) _ (List.length_set ..)) _ (List.length_set ..)) _ (List.length_set ..)) _ (List.length_set ..)) _ (List.length_set ..)) _ (List.length_set ..)) _ (List.length_set ..)) _ (List.length_set ..)) _ (List.length_set ..)) _ (List.length_set ..)) _ (List.length_set ..)) _ (List.length_set ..)) _ (List.length_set ..)) _ (List.length_set ..)) _ (List.length_set ..)) _ (List.length_set ..)) (c := 85) (n := 96) (by decide) rfl (by decide) (by decide)) (wa_85 _ _) ?_
                  refine rb_iinc (lv' := [some (.ref 68), some (.int 1), some (.int (-1)), some (.int (c)), some (.int 7)]) rfl rfl ?_
                  refine rb_goto ?_
                  refine rn_step rfl ?_
                  refine rb_iload rfl ?_
                  refine rb_push ?_
                  refine rb_cge (fun h => absurd h (by decide)) (fun _ => ?_)
                  refine rb_aload rfl ?_
                  refine rb_getf (v := .ref 85) rfl ?_
                  refine rb_push ?_
                  refine rb_iload rfl ?_
                  refine rb_binL (z := 24) (by decide) ?_
                  refine rb_iload rfl ?_
                  refine rb_binL (z := 31) (by decide) ?_
                  refine rb_push ?_
                  refine rb_iast rfl (by decide) (ok_lt (okL.sA (okL.sA (okL.sA (okL.sA (okL.sA (okL.sA (okL.sA (okL.sA (okL.sA (okL.sA (okL.sA (okL.sA (okL.sA (okL.sA (okL.sA (okL.sA (okL.sA (okL.sA (okL.sA (okL.sA (okL.sA (okL.sA (okL.sA (okL.sA (okL.sA (okL.sA (okL.sA (okL.sA (okL.sA (okL.sA (okL.sA (okL.sA (okL.sA (okL.sI (okL.sI s1_ok _ _ _) _ _ _) _ (List.length_set ..)) _ (List.length_set ..)) _ (List.length_set ..)) _ (List.length_set ..)) _ (List.length_set ..)) _ (List.length_set ..)) _ (List.length_set ..)) _ (List.length_set ..)) _ (List.length_set ..)) _ (List.length_set ..)) _ (List.length_set ..)) _ (List.length_set ..)) _ (List.length_set ..)) _ (List.length_set ..)) _ (List.length_set ..)) _ (List.length_set ..)) _ (List.length_set ..)) _ (List.length_set ..)) _ (List.length_set ..)) _ (List.length_set ..)) _ (List.length_set ..)) _ (List.length_set ..)) _ (List.length_set ..)) _ (List.length_set ..)) _ (List.length_set ..)) _ (List.length_set ..)) _ (List.length_set ..)) _ (List.length_set ..)) _ (List.length_set ..)) _ (List.length_set ..)) _ (List.length_set ..)) _ (List.length_set ..)) _ (List.length_set ..)) (c := 85) (n := 96) (by decide) rfl (by decide) (by decide)) (wa_85 _ _) ?_
                  refine rb_iinc (lv' := [some (.ref 68), some (.int 1), some (.int (-1)), some (.int (c)), some (.int 8)]) rfl rfl ?_
                  refine rb_goto ?_
                  refine rn_step rfl ?_
                  refine rb_iload rfl ?_
                  refine rb_push ?_
                  refine rb_cge (fun h => absurd h (by decide)) (fun _ => ?_)
                  refine rb_aload rfl ?_
                  refine rb_getf (v := .ref 85) rfl ?_
                  refine rb_push ?_
                  refine rb_iload rfl ?_
                  refine rb_binL (z := 24) (by decide) ?_
                  refine rb_iload rfl ?_
                  refine rb_binL (z := 32) (by decide) ?_
                  refine rb_push ?_
                  refine rb_iast rfl (by decide) (ok_lt (okL.sA (okL.sA (okL.sA (okL.sA (okL.sA (okL.sA (okL.sA (okL.sA (okL.sA (okL.sA (okL.sA (okL.sA (okL.sA (okL.sA (okL.sA (okL.sA (okL.sA (okL.sA (okL.sA (okL.sA (okL.sA (okL.sA (okL.sA (okL.sA (okL.sA (okL.sA (okL.sA (okL.sA (okL.sA (okL.sA (okL.sA (okL.sA (okL.sA (okL.sA (okL.sI (okL.sI s1_ok _ _ _) _ _ _) _ (List.length_set ..)) _ (List.length_set ..)) _ (List.length_set ..)) _ (List.length_set ..)) _ (List.length_set ..)) _ (List.length_set ..)) _ (List.length_set ..)) _ (List.length_set ..)) _ (List.length_set ..)) _ (List.length_set ..)) _ (List.length_set ..)) _ (List.length_set ..)) _ (List.length_set ..)) _ (List.length_set ..)) _ (List.length_set ..)) _ (List.length_set ..)) _ (List.length_set ..)) _ (List.length_set ..)) _ (List.length_set ..)) _ (List.length_set ..)) _ (List.length_set ..)) _ (List.length_set ..)) _ (List.length_set ..)) _ (List.length_set ..)) _ (List.length_set ..)) _ (List.length_set ..)) _ (List.length_set ..)) _ (List.length_set ..)) _ (List.length_set ..)) _ (List.length_set ..)) _ (List.length_set ..)) _ (List.length_set ..)) _ (List.length_set ..)) _ (List.length_set ..)) (c := 85) (n := 96) (by decide) rfl (by decide) (by decide)) (wa_85 _ _) ?_
                  refine rb_iinc (lv' := [some (.ref 68), some (.int 1), some (.int (-1)), some (.int (c)), some (.int 9)]) rfl rfl ?_
                  refine rb_goto ?_
                  refine rn_step rfl ?_
                  refine rb_iload rfl ?_
                  refine rb_push ?_
                  refine rb_cge (fun h => absurd h (by decide)) (fun _ => ?_)
                  refine rb_aload rfl ?_
                  refine rb_getf (v := .ref 85) rfl ?_
                  refine rb_push ?_
                  refine rb_iload rfl ?_
                  refine rb_binL (z := 24) (by decide) ?_
                  refine rb_iload rfl ?_
                  refine rb_binL (z := 33) (by decide) ?_
                  refine rb_push ?_
                  refine rb_iast rfl (by decide) (ok_lt (okL.sA (okL.sA (okL.sA (okL.sA (okL.sA (okL.sA (okL.sA (okL.sA (okL.sA (okL.sA (okL.sA (okL.sA (okL.sA (okL.sA (okL.sA (okL.sA (okL.sA (okL.sA (okL.sA (okL.sA (okL.sA (okL.sA (okL.sA (okL.sA (okL.sA (okL.sA (okL.sA (okL.sA (okL.sA (okL.sA (okL.sA (okL.sA (okL.sA (okL.sA (okL.sA (okL.sI (okL.sI s1_ok _ _ _) _ _ _) _ (List.length_set ..)) _ (List.length_set ..)) _ (List.length_set ..)) _ (List.length_set ..)) _ (List.length_set ..)) _ (List.length_set ..)) _ (List.length_set ..)) _ (List.length_set ..)) _ (List.length_set ..)) _ (List.length_set ..)) _ (List.length_set ..)) _ (List.length_set ..)) _ (List.length_set ..)) _ (List.length_set ..)) _ (List.length_set ..)) _ (List.length_set ..)) _ (List.length_set ..)) _ (List.length_set ..)) _ (List.length_set ..)) _ (List.length_set ..)) _ (List.length_set ..)) _ (List.length_set ..)) _ (List.length_set ..)) _ (List.length_set ..)) _ (List.length_set ..)) _ (List.length_set ..)) _ (List.length_set ..)) _ (List.length_set ..)) _ (List.length_set ..)) _ (List.length_set ..)) _ (List.length_set ..)) _ (List.length_set ..)) _ (List.length_set ..)) _ (List.length_set ..)) _ (List.length_set ..)) (c := 85) (n := 96) (by decide) rfl (by decide) (by decide)) (wa_85 _ _) ?_
                  refine rb_iinc (lv' := [some (.ref 68), some (.int 1), some (.int (-1)), some (.int (c)), some (.int 10)]) rfl rfl ?_
                  refine rb_goto ?_
                  refine rn_step rfl ?_
                  refine rb_iload rfl ?_
                  refine rb_push ?_
                  refine rb_cge (fun h => absurd h (by decide)) (fun _ => ?_)
                  refine rb_aload rfl ?_
                  refine rb_getf (v := .ref 85) rfl ?_
                  refine rb_push ?_
                  refine rb_iload rfl ?_
                  refine rb_binL (z := 24) (by decide) ?_
                  refine rb_iload rfl ?_
                  refine rb_binL (z := 34) (by decide) ?_
                  refine rb_push ?_
                  refine rb_iast rfl (by decide) (ok_lt (okL.sA (okL.sA (okL.sA (okL.sA (okL.sA (okL.sA (okL.sA (okL.sA (okL.sA (okL.sA (okL.sA (okL.sA (okL.sA (okL.sA (okL.sA (okL.sA (okL.sA (okL.sA (okL.sA (okL.sA (okL.sA (okL.sA (okL.sA (okL.sA (okL.sA (okL.sA (okL.sA (okL.sA (okL.sA (okL.sA (okL.sA (okL.sA (okL.sA (okL.sA (okL.sA (okL.sA (okL.sI (okL.sI s1_ok _ _ _) _ _ _) _ (List.length_set ..)) _ (List.length_set ..)) _ (List.length_set ..)) _ (List.length_set ..)) _ (List.length_set ..)) _ (List.length_set ..)) _ (List.length_set ..)) _ (List.length_set ..)) _ (List.length_set ..)) _ (List.length_set ..)) _ (List.length_set ..)) _ (List.length_set ..)) _ (List.length_set ..)) _ (List.length_set ..)) _ (List.length_set ..)) _ (List.length_set ..)) _ (List.length_set ..)) _ (List.length_set ..)) _ (List.length_set ..)) _ (List.length_set ..)) _ (List.length_set ..)) _ (List.length_set ..)) _ (List.length_set ..)) _ (List.length_set ..)) _ (List.length_set ..)) _ (List.length_set ..)) _ (List.length_set ..)) _ (List.length_set ..)) _ (List.length_set ..)) _ (List.length_set ..)) _ (List.length_set ..)) _ (List.length_set ..)) _ (List.length_set ..)) _ (List.length_set ..)) _ (List.length_set ..)) _ (List.length_set ..)) (c := 85) (n := 96) (by decide) rfl (by decide) (by decide)) (wa_85 _ _) ?_
                  refine rb_iinc (lv' := [some (.ref 68), some (.int 1), some (.int (-1)), some (.int (c)), some (.int 11)]) rfl rfl ?_
                  refine rb_goto ?_
                  refine rn_step rfl ?_
                  refine rb_iload rfl ?_
                  refine rb_push ?_
                  refine rb_cge (fun h => absurd h (by decide)) (fun _ => ?_)
                  refine rb_aload rfl ?_
                  refine rb_getf (v := .ref 85) rfl ?_
                  refine rb_push ?_
                  refine rb_iload rfl ?_
                  refine rb_binL (z := 24) (by decide) ?_
                  refine rb_iload rfl ?_
                  refine rb_binL (z := 35) (by decide) ?_
                  refine rb_push ?_
                  refine rb_iast rfl (by decide) (ok_lt (okL.sA (okL.sA (okL.sA (okL.sA (okL.sA (okL.sA (okL.sA (okL.sA (okL.sA (okL.sA (okL.sA (okL.sA (okL.sA (okL.sA (okL.sA (okL.sA (okL.sA (okL.sA (okL.sA (okL.sA (okL.sA (okL.sA (okL.sA (okL.sA (okL.sA (okL.sA (okL.sA (okL.sA (okL.sA (okL.sA (okL.sA (okL.sA (okL.sA (okL.sA (okL.sA (okL.sA (okL.sA (okL.sI (okL.sI s1_ok _ _ _) _ _ _) _ (List.length_set ..)) _ (List.length_set ..)) _ (List.length_set ..)) _ (List.length_set ..)) _ (List.length_set ..)) _ (List.length_set ..)) _ (List.length_set ..)) _ (List.length_set ..)) _ (List.length_set ..)) _ (List.length_set ..)) _ (List.length_set ..)) _ (List.length_set ..)) _ (List.length_set ..)) _ (List.length_set ..)) _ (List.length_set ..)) _ (List.length_set ..)) _ (List.length_set ..)) _ (List.length_set ..)) _ (List.length_set ..)) _ (List.length_set ..)) _ (List.length_set ..)) _ (List.length_set ..)) _ (List.length_set ..)) _ (List.length_set ..)) _ (List.length_set ..)) _ (List.length_set ..)) _ (List.length_set ..)) _ (List.length_set ..)) _ (List.length_set ..)) _ (List.length_set ..)) _ (List.length_set ..)) _ (List.length_set ..)) _ (List.length_set ..)) _ (List.length_set ..)) _ (List.length_set ..)) _ (List.length_set ..)) _ (List.length_set ..)) (c := 85) (n := 96) (by decide) rfl (by decide) (by decide)) (wa_85 _ _) ?_
                  refine rb_iinc (lv' := [some (.ref 68), some (.int 1), some (.int (-1)), some (.int (c)), some (.int 12)]) rfl rfl ?_
                  refine rb_goto ?_
                  refine rn_step rfl ?_
                  refine rb_iload rfl ?_
                  refine rb_push ?_
                  refine rb_cge (fun h => absurd h (by decide)) (fun _ => ?_)
                  refine rb_aload rfl ?_
                  refine rb_getf (v := .ref 85) rfl ?_
                  refine rb_push ?_
                  refine rb_iload rfl ?_
                  refine rb_binL (z := 24) (by decide) ?_
                  refine rb_iload rfl ?_
                  refine rb_binL (z := 36) (by decide) ?_
                  refine rb_push ?_
                  refine rb_iast rfl (by decide) (ok_lt (okL.sA (okL.sA (okL.sA (okL.sA (okL.sA (okL.sA (okL.sA (okL.sA (okL.sA (okL.sA (okL.sA (okL.sA (okL.sA (okL.sA (okL.sA (okL.sA (okL.sA (okL.sA (okL.sA (okL.sA (okL.sA (okL.sA (okL.sA (okL.sA (okL.sA (okL.sA (okL.sA (okL.sA (okL.sA (okL.sA (okL.sA (okL.sA (okL.sA (okL.sA (okL.sA (okL.sA (okL.sA (okL.sA (okL.sI (okL.sI s1_ok _ _ _) _ _ _) _ (List.length_set ..)) _ (List.length_set ..)) _ (List.length_set ..)) _ (List.length_set ..)) _ (List.length_set ..)) _ (List.length_set ..)) _ (List.length_set ..)) _ (List.length_set ..)) _ (List.length_set ..)) _ (List.length_set ..)) _ (List.length_set ..)) _ (List.length_set ..)) _ (List.length_set ..)) _ (List.length_set ..)) _ (List.length_set ..)) _ (List.length_set ..)) _ (List.length_set ..)) _ (List.length_set ..)) _ (List.length_set ..)) _ (List.length_set ..)) _ (List.length_set ..)) _ (List.length_set ..)) _ (List.length_set ..)) _ (List.length_set ..)) _ (List.length_set ..)) _ (List.length_set ..)) _ (List.length_set ..)) _ (List.length_set ..)) _ (List.length_set ..)) _ (List.length_set ..)) _ (List.length_set ..)) _ (List.length_set ..)) _ (List.length_set ..)) _ (List.length_set ..)) _ (List.length_set ..)) _ (List.length_set ..)) _ (List.length_set ..)) _ (List.length_set ..)) (c := 85) (n := 96) (by decide) rfl (by decide) (by decide)) (wa_85 _ _) ?_
                  refine rb_iinc (lv' := [some (.ref 68), some (.int 1), some (.int (-1)), some (.int (c)), some (.int 13)]) rfl rfl ?_
                  refine rb_goto ?_
                  refine rn_step rfl ?_
                  refine rb_iload rfl ?_
                  refine rb_push ?_
                  refine rb_cge (fun h => absurd h (by decide)) (fun _ => ?_)
                  refine rb_aload rfl ?_
                  refine rb_getf (v := .ref 85) rfl ?_
                  refine rb_push ?_
                  refine rb_iload rfl ?_
                  refine rb_binL (z := 24) (by decide) ?_
                  refine rb_iload rfl ?_
                  refine rb_binL (z := 37) (by decide) ?_
                  refine rb_push ?_
                  refine rb_iast rfl (by decide) (ok_lt (okL.sA (okL.sA (okL.sA (okL.sA (okL.sA (okL.sA (okL.sA (okL.sA (okL.sA (okL.sA (okL.sA (okL.sA (okL.sA (okL.sA (okL.sA (okL.sA (okL.sA (okL.sA (okL.sA (okL.sA (okL.sA (okL.sA (okL.sA (okL.sA (okL.sA (okL.sA (okL.sA (okL.sA (okL.sA (okL.sA (okL.sA (okL.sA (okL.sA (okL.sA (okL.sA (okL.sA (okL.sA (okL.sA (okL.sA (okL.sI (okL.sI s1_ok _ _ _) _ _ _) _ (List.length_set ..)) _ (List.length_set ..)) _ (List.length_set ..)) _ (List.length_set ..)) _ (List.length_set ..)) _ (List.length_set ..)) _ (List.length_set ..)) _ (List.length_set ..)) _ (List.length_set ..)) _ (List.length_set ..)) _ (List.length_set ..)) _ (List.length_set ..)) _ (List.length_set ..)) _ (List.length_set ..)) _ (List.length_set ..)) _ (List.length_set ..)) _ (List.length_set ..)) _ (List.length_set ..)) _ (List.length_set ..)) _ (List.length_set ..)) _ (List.length_set ..)) _ (List.length_set ..)) _ (List.length_set ..)) _ (List.length_set ..)) _ (List.length_set ..)) _ (List.length_set ..)) _ (List.length_set ..)) _ (List.length_set ..)) _ (List.length_set ..)) _ (List.length_set ..)) _ (List.length_set ..)) _ (List.length_set ..)) _ (List.length_set ..)) _ (List.length_set ..)) _ (List.length_set ..)) _ (List.length_set ..)) _ (List.length_set ..)) _ (List.length_set ..)) _ (List.length_set ..)) (c := 85) (n := 96) (by decide) rfl (by decide) (by decide)) (wa_85 _ _) ?_
                  refine rb_iinc (lv' := [some (.ref 68), some (.int 1), some (.int (-1)), some (.int (c)), some (.int 14)]) rfl rfl ?_
                  refine rb_goto ?_
                  refine rn_step rfl ?_
                  refine rb_iload rfl ?_
                  refine rb_push ?_
                  refine rb_cge (fun h => absurd h (by decide)) (fun _ => ?_)
                  refine rb_aload rfl ?_
                  refine rb_getf (v := .ref 85) rfl ?_
                  refine rb_push ?_
                  refine rb_iload rfl ?_
                  refine rb_binL (z := 24) (by decide) ?_
                  refine rb_iload rfl ?_
                  refine rb_binL (z := 38) (by decide) ?_
                  refine rb_push ?_
                  refine rb_iast rfl (by decide) (ok_lt (okL.sA (okL.sA (okL.sA (okL.sA (okL.sA (okL.sA (okL.sA (okL.sA (okL.sA (okL.sA (okL.sA (okL.sA (okL.sA (okL.sA (okL.sA (okL.sA (okL.sA (okL.sA (okL.sA (okL.sA (okL.sA (okL.sA (okL.sA (okL.sA (okL.sA (okL.sA (okL.sA (okL.sA (okL.sA (okL.sA (okL.sA (okL.sA (okL.sA (okL.sA (okL.sA (okL.sA (okL.sA (okL.sA (okL.sA (okL.sA (okL.sI (okL.sI s1_ok _ _ _) _ _ _) _ (List.length_set ..)) _ (List.length_set ..)) _ (List.length_set ..)) _ (List.length_set ..)) _ (List.length_set ..)) _ (List.length_set ..)) _ (List.length_set ..)) _ (List.length_set ..)) _ (List.length_set ..)) _ (List.length_set ..)) _ (List.length_set ..)) _ (List.length_set ..)) _ (List.length_set ..)) _ (List.length_set ..)) _ (List.length_set ..)) _ (List.length_set ..)) _ (List.length_set ..)) _ (List.length_set ..)) _ (List.length_set ..)) _ (List.length_set ..)) _ (List.length_set ..)) _ (List.length_set ..)) _ (List.length_set ..)) _ (List.length_set ..)) _ (List.length_set ..)) _ (List.length_set ..)) _ (List.length_set ..)) _ (List.length_set ..)) _ (List.length_set ..)) _ (List.length_set ..)) _ (List.length_set ..)) _ (List.length_set ..)) _ (List.length_set ..)) _ (List.length_set ..)) _ (List.length_set ..)) _ (List.length_set ..)) _ (List.length_set ..)) _ (List.length_set ..)) _ (List.length_set ..)) _ (List.length_set ..)) (c := 85) (n := 96) (by decide) rfl (by decide) (by decide)) (wa_85 _ _) ?_
                  refine rb_iinc (lv' := [some (.ref 68), some (.int 1), some (.int (-1)), some (.int (c)), some (.int 15)]) rfl rfl ?_
                  refine rb_goto ?_
                  refine rn_step rfl ?_
                  refine rb_iload rfl ?_
                  refine rb_push ?_
                  refine rb_cge (fun h => absurd h (by decide)) (fun _ => ?_)
                  refine rb_aload rfl ?_
                  refine rb_getf (v := .ref 85) rfl ?_
                  refine rb_push ?_
                  refine rb_iload rfl ?_
                  refine rb_binL (z := 24) (by decide) ?_
                  refine rb_iload rfl ?_
                  refine rb_binL (z := 39) (by decide) ?_
                  refine rb_push ?_
                  refine rb_iast rfl (by decide) (ok_lt (okL.sA (okL.sA (okL.sA (okL.sA (okL.sA (okL.sA (okL.sA (okL.sA (okL.sA (okL.sA (okL.sA (okL.sA (okL.sA (okL.sA (okL.sA (okL.sA (okL.sA (okL.sA (okL.sA (okL.sA (okL.sA (okL.sA (okL.sA (okL.sA (okL.sA (okL.sA (okL.sA (okL.sA (okL.sA (okL.sA (okL.sA (okL.sA (okL.sA (okL.sA (okL.sA (okL.sA (okL.sA (okL.sA (okL.sA (okL.sA (okL.sA (okL.sI (okL.sI s1_ok _ _ _) _ _ _) _ (List.length_set ..)) _ (List.length_set ..)) _ (List.length_set ..)) _ (List.length_set ..)) _ (List.length_set ..)) _ (List.length_set ..)) _ (List.length_set ..)) _ (List.length_set ..)) _ (List.length_set ..)) _ (List.length_set ..)) _ (List.length_set ..)) _ (List.length_set ..)) _ (List.length_set ..)) _ (List.length_set ..)) _ (List.length_set ..)) _ (List.length_set ..)) _ (List.length_set ..)) _ (List.length_set ..)) _ (List.length_set ..)) _ (List.length_set ..)) _ (List.length_set ..)) _ (List.length_set ..)) _ (List.length_set ..)) _ (List.length_set ..)) _ (List.length_set ..)) _ (List.length_set ..)) _ (List.length_set ..)) _ (List.length_set ..)) _ (List.length_set ..)) _ (List.length_set ..)) _ (List.length_set ..)) _ (List.length_set ..)) _ (List.length_set ..)) _ (List.length_set ..)) _ (List.length_set ..)) _ (List.length_set ..)) _ (List.length_set ..)) _ (List.length_set ..)) _ (List.length_set ..)) _ (List.length_set ..)) _ (List.length_set ..)) (c := 85) (n := 96) (by decide) rfl (by decide) (by decide)) (wa_85 _ _) ?_
                  refine rb_iinc (lv' := [some (.ref 68), some (.int 1), some (.int (-1)), some (.int (c)), some (.int 16)]) rfl rfl ?_
                  refine rb_goto ?_
                  refine rn_step rfl ?_
                  refine rb_iload rfl ?_
                  refine rb_push ?_
                  refine rb_cge (fun h => absurd h (by decide)) (fun _ => ?_)
                  refine rb_aload rfl ?_
                  refine rb_getf (v := .ref 85) rfl ?_
                  refine rb_push ?_
                  refine rb_iload rfl ?_
                  refine rb_binL (z := 24) (by decide) ?_
                  refine rb_iload rfl ?_
                  refine rb_binL (z := 40) (by decide) ?_
                  refine rb_push ?_
                  refine rb_iast rfl (by decide) (ok_lt (okL.sA (okL.sA (okL.sA (okL.sA (okL.sA (okL.sA (okL.sA (okL.sA (okL.sA (okL.sA (okL.sA (okL.sA (okL.sA (okL.sA (okL.sA (okL.sA (okL.sA (okL.sA (okL.sA (okL.sA (okL.sA (okL.sA (okL.sA (okL.sA (okL.sA (okL.sA (okL.sA (okL.sA (okL.sA (okL.sA (okL.sA (okL.sA (okL.sA (okL.sA (okL.sA (okL.sA (okL.sA (okL.sA (okL.sA (okL.sA (okL.sA (okL.sA (okL.sI (okL.sI s1_ok _ _ _) _ _ _) _ (List.length_set ..)) _ (List.length_set ..)) _ (List.length_set ..)) _ (List.length_set ..)) _ (List.length_set ..)) _ (List.length_set ..)) _ (List.length_set ..)) _ (List.length_set ..)) _ (List.length_set ..)) _ (List.length_set ..)) _ (List.length_set ..)) _ (List.length_set ..)) _ (List.length_set ..)) _ (List.length_set ..)) _ (List.length_set ..)) _ (List.length_set ..)) _ (List.length_set ..)) _ (List.length_set ..)) _ (List.length_set ..)) _ (List.length_set ..)) _ (List.length_set ..)) _ (List.length_set ..)) _ (List.length_set ..)) _ (List.length_set ..)) _ (List.length_set ..)) _ (List.length_set ..)) _ (List.length_set ..)) _ (List.length_set ..)) _ (List.length_set ..)) _ (List.length_set ..)) _ (List.length_set ..)) _ (List.length_set ..)) _ (List.length_set ..)) _ (List.length_set ..)) _ (List.length_set ..)) _ (List.length_set ..)) _ (List.length_set ..)) _ (List.length_set ..)) _ (List.length_set ..)) _ (List.length_set ..)) _ (List.length_set ..)) _ (List.length_set ..)) (c := 85) (n := 96) (by decide) rfl (by decide) (by decide)) (wa_85 _ _) ?_
                  refine rb_iinc (lv' := [some (.ref 68), some (.int 1), some (.int (-1)), some (.int (c)), some (.int 17)]) rfl rfl ?_
                  refine rb_goto ?_
                  refine rn_step rfl ?_
                  refine rb_iload rfl ?_
                  refine rb_push ?_
                  refine rb_cge (fun h => absurd h (by decide)) (fun _ => ?_)
                  refine rb_aload rfl ?_
                  refine rb_getf (v := .ref 85) rfl ?_
                  refine rb_push ?_
                  refine rb_iload rfl ?_
                  refine rb_binL (z := 24) (by decide) ?_
                  refine rb_iload rfl ?_
                  refine rb_binL (z := 41) (by decide) ?_
                  refine rb_push ?_
                  refine rb_iast rfl (by decide) (ok_lt (okL.sA (okL.sA (okL.sA (okL.sA (okL.sA (okL.sA (okL.sA (okL.sA (okL.sA (okL.sA (okL.sA (okL.sA (okL.sA (okL.sA (okL.sA (okL.sA (okL.sA (okL.sA (okL.sA (okL.sA (okL.sA (okL.sA (okL.sA (okL.sA (okL.sA (okL.sA (okL.sA (okL.sA (okL.sA (okL.sA (okL.sA (okL.sA (okL.sA (okL.sA (okL.sA (okL.sA (okL.sA (okL.sA (okL.sA (okL.sA (okL.sA (okL.sA (okL.sA (okL.sI (okL.sI s1_ok _ _ _) _ _ _) _ (List.length_set ..)) _ (List.length_set ..)) _ (List.length_set ..)) _ (List.length_set ..)) _ (List.length_set ..)) _ (List.length_set ..)) _ (List.length_set ..)) _ (List.length_set ..)) _ (List.length_set ..)) _ (List.length_set ..)) _ (List.length_set ..)) _ (List.length_set ..)) _ (List.length_set ..)) _ (List.length_set ..)) _ (List.length_set ..)) _ (List.length_set ..)) _ (List.length_set ..)) _ (List.length_set ..)) _ (List.length_set ..)) _ (List.length_set ..)) _ (List.length_set ..)) _ (List.length_set ..)) _ (List.length_set ..)) _ (List.length_set ..)) _ (List.length_set ..)) _ (List.length_set ..)) _ (List.length_set ..)) _ (List.length_set ..)) _ (List.length_set ..)) _ (List.length_set ..)) _ (List.length_set ..)) _ (List.length_set ..)) _ (List.length_set ..)) _ (List.length_set ..)) _ (List.length_set ..)) _ (List.length_set ..)) _ (List.length_set ..)) _ (List.length_set ..)) _ (List.length_set ..)) _ (List.length_set ..)) _ (List.length_set ..)) _ (List.length_set ..)) _ (List.length_set ..)) (c := 85) (n := 96) (by decide) rfl (by decide) (by decide)) (wa_85 _ _) ?_
                  refine rb_iinc (lv' := [some (.ref 68), some (.int 1), some (.int (-1)), some (.int (c)), some (.int 18)]) rfl rfl ?_
                  refine rb_goto ?_
                  refine rn_step rfl ?_
                  refine rb_iload rfl ?_
                  refine rb_push ?_
                  refine rb_cge (fun h => absurd h (by decide)) (fun _ => ?_)
                  refine rb_aload rfl ?_
                  refine rb_getf (v := .ref 85) rfl ?_
                  refine rb_push ?_
                  refine rb_iload rfl ?_
                  refine rb_binL (z := 24) (by decide) ?_
                  refine rb_iload rfl ?_
                  refine rb_binL (z := 42) (by decide) ?_
                  refine rb_push ?_
                  refine rb_iast rfl (by decide) (ok_lt (okL.sA (okL.sA (okL.sA (okL.sA (okL.sA (okL.sA (okL.sA (okL.sA (okL.sA (okL.sA (okL.sA (okL.sA (okL.sA (okL.sA (okL.sA (okL.sA (okL.sA (okL.sA (okL.sA (okL.sA (okL.sA (okL.sA (okL.sA (okL.sA (okL.sA (okL.sA (okL.sA (okL.sA (okL.sA (okL.sA (okL.sA (okL.sA (okL.sA (okL.sA (okL.sA (okL.sA (okL.sA (okL.sA (okL.sA (okL.sA (okL.sA (okL.sA (okL.sA (okL.sA (okL.sI (okL.sI s1_ok _ _ _) _ _ _) _ (List.length_set ..)) _ (List.length_set ..)) _ (List.length_set ..)) _ (List.length_set ..)) _ (List.length_set ..)) _ (List.length_set ..)) _ (List.length_set ..)) _ (List.length_set ..)) _ (List.length_set ..)) _ (List.length_set ..)) _ (List.length_set ..)) _ (List.length_set ..)) _ (List.length_set ..)) _ (List.length_set ..)) _ (List.length_set ..)) _ (List.length_set ..)) _ (List.length_set ..)) _ (List.length_set ..)) _ (List.length_set ..)) _ (List.length_set ..)) _ (List.length_set ..)) _ (List.length_set ..)) _ (List.length_set ..)) _ (List.length_set ..)) _ (List.length_set ..)) _ (List.length_set ..)) _ (List.length_set ..)) _ (List.length_set ..)) _ (List.length_set ..)) _ (List.length_set ..)) _ (List.length_set ..)) _ (List.length_set ..)) _ (List.length_set ..)) _ (List.length_set ..)) _ (List.length_set ..)) _ (List.length_set ..)) _ (List.length_set ..)) _ (List.length_set ..)) _ (List.length_set ..)) _ (List.length_set ..)) _ (List.length_set ..)) _ (List.length_set ..)) _ (List.length_set ..)) _ (List.length_set ..)) (c := 85) (n := 96) (by decide) rfl (by decide) (by decide)) (wa_85 _ _) ?_
                  refine rb_iinc (lv' := [some (.ref 68), some (.int 1), some (.int (-1)), some (.int (c)), some (.int 19)]) rfl rfl ?_
                  refine rb_goto ?_
                  refine rn_step rfl ?_
                  refine rb_iload rfl ?_
                  refine rb_push ?_
                  refine rb_cge (fun h => absurd h (by decide)) (fun _ => ?_)
                  refine rb_aload rfl ?_
                  refine rb_getf (v := .ref 85) rfl ?_
                  refine rb_push ?_
                  refine rb_iload rfl ?_
                  refine rb_binL (z := 24) (by decide) ?_
                  refine rb_iload rfl ?_
                  refine rb_binL (z := 43) (by decide) ?_
                  refine rb_push ?_
                  refine rb_iast rfl (by decide) (ok_lt (okL.sA (okL.sA (okL.sA (okL.sA (okL.sA (okL.sA (okL.sA (okL.sA (okL.sA (okL.sA (okL.sA (okL.sA (okL.sA (okL.sA (okL.sA (okL.sA (okL.sA (okL.sA (okL.sA (okL.sA (okL.sA (okL.sA (okL.sA (okL.sA (okL.sA (okL.sA (okL.sA (okL.sA (okL.sA (okL.sA (okL.sA (okL.sA (okL.sA (okL.sA (okL.sA (okL.sA (okL.sA (okL.sA (okL.sA (okL.sA (okL.sA (okL.sA (okL.sA (okL.sA (okL.sA (okL.sI (okL.sI s1_ok _ _ _) _ _ _) _ (List.length_set ..)) _ (List.length_set ..)) _ (List.length_set ..)) _ (List.length_set ..)) _ (List.length_set ..)) _ (List.length_set ..)) _ (List.length_set ..)) _ (List.length_set ..)) _ (List.length_set ..)) _ (List.length_set ..)) _ (List.length_set ..)) _ (List.length_set ..)) _ (List.length_set ..)) _ (List.length_set ..)) _ (List.length_set ..)) _ (List.length_set ..)) _ (List.length_set ..)) _ (List.length_set ..)) _ (List.length_set ..)) _ (List.length_set ..)) _ (List.length_set ..)) _ (List.length_set ..)) _ (List.length_set ..)) _ (List.length_set ..)) _ (List.length_set ..)) _ (List.length_set ..)) _ (List.length_set ..)) _ (List.length_set ..)) _ (List.length_set ..)) _ (List.length_set ..)) _ (List.length_set ..)) _ (List.length_set ..)) _ (List.length_set ..)) _ (List.length_set ..)) _ (List.length_set ..)) _ (List.length_set ..)) _ (List.length_set ..)) _ (List.length_set ..)) _ (List.length_set ..)) _ (List.length_set ..)) _ (List.length_set ..)) _ (List.length_set ..)) _ (List.length_set ..)) _ (List.length_set ..)) _ (List.length_set ..)) (c := 85) (n := 96) (by decide) rfl (by decide) (by decide)) (wa_85 _ _) ?_
                  refine rb_iinc (lv' := [some (.ref 68), some (.int 1), some (.int (-1)), some (.int (c)), some (.int 20)]) rfl rfl ?_
                  refine rb_goto ?_
                  refine rn_step rfl ?_
                  refine rb_iload rfl ?_
                  refine rb_push ?_
                  refine rb_cge (fun h => absurd h (by decide)) (fun _ => ?_)
                  refine rb_aload rfl ?_
                  refine rb_getf (v := .ref 85) rfl ?_
                  refine rb_push ?_
                  refine rb_iload rfl ?_
                  refine rb_binL (z := 24) (by decide) ?_
                  refine rb_iload rfl ?_
                  refine rb_binL (z := 44) (by decide) ?_
                  refine rb_push ?_
                  refine rb_iast rfl (by decide) (ok_lt (okL.sA (okL.sA (okL.sA (okL.sA (okL.sA (okL.sA (okL.sA (okL.sA (okL.sA (okL.sA (okL.sA (okL.sA (okL.sA (okL.sA (okL.sA (okL.sA (okL.sA (okL.sA (okL.sA (okL.sA (okL.sA (okL.sA (okL.sA (okL.sA (okL.sA (okL.sA (okL.sA (okL.sA (okL.sA (okL.sA (okL.sA (okL.sA (okL.sA (okL.sA (okL.sA (okL.sA (okL.sA (okL.sA (okL.sA (okL.sA (okL.sA (okL.sA (okL.sA (okL.sA (okL.sA (okL.sA (okL.sI (okL.sI s1_ok _ _ _) _ _ _) _ (List.length_set ..)) _ (List.length_set ..)) _ (List.length_set ..)) _ (List.length_set ..)) _ (List.length_set ..)) _ (List.length_set ..)) _ (List.length_set ..)) _ (List.length_set ..)) _ (List.length_set ..)) _ (List.length_set ..)) _ (List.length_set ..)) _ (List.length_set ..)) _ (List.length_set ..)) _ (List.length_set ..)) _ (List.length_set ..)) _ (List.length_set ..)) _ (List.length_set ..)) _ (List.length_set ..)) _ (List.length_set ..)) _ (List.length_set ..)) _ (List.length_set ..)) _ (List.length_set ..)) _ (List.length_set ..)) _ (List.length_set ..)) _ (List.length_set ..)) _ (List.length_set ..)) _ (List.length_set ..)) _ (List.length_set ..)) _ (List.length_set ..)) _ (List.length_set ..)) _ (List.length_set ..)) _ (List.length_set ..)) _ (List.length_set ..)) _ (List.length_set ..)) _ (List.length_set ..)) _ (List.length_set ..)) _ (List.length_set ..)) _ (List.length_set ..)) _ (List.length_set ..)) _ (List.length_set ..)) _ (List.length_set ..)) _ (List.length_set ..)) _ (List.length_set ..)) _ (List.length_set ..)) _ (List.length_set ..)) _ (List.length_set ..)) (c := 85) (n := 96) (by decide) rfl (by decide) (by decide)) (wa_85 _ _) ?_
                  refine rb_iinc (lv' := [some (.ref 68), some (.int 1), some (.int (-1)), some (.int (c)), some (.int 21)]) rfl rfl ?_
                  refine rb_goto ?_
                  refine rn_step rfl ?_
                  refine rb_iload rfl ?_
                  refine rb_push ?_
                  refine rb_cge (fun h => absurd h (by decide)) (fun _ => ?_)
                  refine rb_aload rfl ?_
                  refine rb_getf (v := .ref 85) rfl ?_
                  refine rb_push ?_
                  refine rb_iload rfl ?_
                  refine rb_binL (z := 24) (by decide) ?_
                  refine rb_iload rfl ?_
                  refine rb_binL (z := 45) (by decide) ?_
                  refine rb_push ?_
                  refine rb_iast rfl (by decide) (ok_lt (okL.sA (okL.sA (okL.sA (okL.sA (okL.sA (okL.sA (okL.sA (okL.sA (okL.sA (okL.sA (okL.sA (okL.sA (okL.sA (okL.sA (okL.sA (okL.sA (okL.sA (okL.sA (okL.sA (okL.sA (okL.sA (okL.sA (okL.sA (okL.sA (okL.sA (okL.sA (okL.sA (okL.sA (okL.sA (okL.sA (okL.sA (okL.sA (okL.sA (okL.sA (okL.sA (okL.sA (okL.sA (okL.sA (okL.sA (okL.sA (okL.sA (okL.sA (okL.sA (okL.sA (okL.sA (okL.sA (okL.sA (okL.sI (okL.sI s1_ok _ _ _) _ _ _) _ (List.length_set ..)) _ (List.length_set ..)) _ (List.length_set ..)) _ (List.length_set ..)) _ (List.length_set ..)) _ (List.length_set ..)) _ (List.length_set ..)) _ (List.length_set ..)) _ (List.length_set ..)) _ (List.length_set ..)) _ (List.length_set ..)) _ (List.length_set ..)) _ (List.length_set ..)) _ (List.length_set ..)) _ (List.length_set ..)) _ (List.length_set ..)) _ (List.length_set ..)) _ (List.length_set ..)) _ (List.length_set ..)) _ (List.length_set ..)) _ (List.length_set ..)) _ (List.length_set ..)) _ (List.length_set ..)) _ (List.length_set ..)) _ (List.length_set ..)) _ (List.length_set ..)) _ (List.length_set ..)) _ (List.length_set ..)) _ (List.length_set ..)) _ (List.length_set ..)) _ (List.length_set ..)) _ (List.length_set ..)) _ (List.length_set ..)) _ (List.length_set ..)) _ (List.length_set ..)) _ (List.length_set ..)) _ (List.length_set ..)) _ (List.length_set ..)) _ (List.length_set ..)) _ (List.length_set ..)) _ (List.length_set ..)) _ (List.length_set ..)) _ (List.length_set ..)) _ (List.length_set ..)) _ (List.length_set ..)) _ (List.length_set ..)) _ (List.length_set ..)) (c := 85) (n := 96) (by decide) rfl (by decide) (by decide)) (wa_85 _ _) ?_
                  refine rb_iinc (lv' := [some (.ref 68), some (.int 1), some (.int (-1)), some (.int (c)), some (.int 22)]) rfl rfl ?_
                  refine rb_goto ?_
                  refine rn_step rfl ?_
                  refine rb_iload rfl ?_
                  refine rb_push ?_
                  refine rb_cge (fun h => absurd h (by decide)) (fun _ => ?_)
                  refine rb_aload rfl ?_
                  refine rb_getf (v := .ref 85) rfl ?_
                  refine rb_push ?_
                  refine rb_iload rfl ?_
                  refine rb_binL (z := 24) (by decide) ?_
                  refine rb_iload rfl ?_
                  refine rb_binL (z := 46) (by decide) ?_
                  refine rb_push ?_
                  refine rb_iast rfl (by decide) (ok_lt (okL.sA (okL.sA (okL.sA (okL.sA (okL.sA (okL.sA (okL.sA (okL.sA (okL.sA (okL.sA (okL.sA (okL.sA (okL.sA (okL.sA (okL.sA (okL.sA (okL.sA (okL.sA (okL.sA (okL.sA (okL.sA (okL.sA (okL.sA (okL.sA (okL.sA (okL.sA (okL.sA (okL.sA (okL.sA (okL.sA (okL.sA (okL.sA (okL.sA (okL.sA (okL.sA (okL.sA (okL.sA (okL.sA (okL.sA (okL.sA (okL.sA (okL.sA (okL.sA (okL.sA (okL.sA (okL.sA (okL.sA (okL.sA (okL.sI (okL.sI s1_ok _ _ _) _ _ _) _ (List.length_set ..)) _ (List.length_set ..)) _ (List.length_set ..)) _ (List.length_set ..)) _ (List.length_set ..)) _ (List.length_set ..)) _ (List.length_set ..)) _ (List.length_set ..)) _ (List.length_set ..)) _ (List.length_set ..)) _ (List.length_set ..)) _ (List.length_set ..)) _ (List.length_set ..)) _ (List.length_set ..)) _ (List.length_set ..)) _ (List.length_set ..)) _ (List.length_set ..)) _ (List.length_set ..)) _ (List.length_set ..)) _ (List.length_set ..)) _ (List.length_set ..)) _ (List.length_set ..)) _ (List.length_set ..)) _ (List.length_set ..)) _ (List.length_set ..)) _ (List.length_set ..)) _ (List.length_set ..)) _ (List.length_set ..)) _ (List.length_set ..)) _ (List.length_set ..)) _ (List.length_set ..)) _ (List.length_set ..)) _ (List.length_set ..)) _ (List.length_set ..)) _ (List.length_set ..)) _ (List.length_set ..)) _ (List.length_set ..)) _ (List.length_set ..)) _ (List.length_set ..)) _ (List.length_set ..)) _ (List.length_set ..)) _ (List.length_set ..)) _ (List.length_set ..)) _ (List.length_set ..)) _ (List.length_set ..)) _ (List.length_set ..)) _ (List.length_set ..)) _ (List.length_set ..)) (c := 85) (n := 96) (by decide) rfl (by decide) (by decide)) (wa_85 _ _) ?_
                  refine rb_iinc (lv' := [some (.ref 68), some (.int 1), some (.int (-1)), some (.int (c)), some (.int 23)]) rfl rfl ?_
                  refine rb_goto ?_
                  refine rn_step rfl ?_
                  refine rb_iload rfl ?_
                  refine rb_push ?_
                  refine rb_cge (fun h => absurd h (by decide)) (fun _ => ?_)
                  refine rb_aload rfl ?_
                  refine rb_getf (v := .ref 85) rfl ?_
                  refine rb_push ?_
                  refine rb_iload rfl ?_
                  refine rb_binL (z := 24) (by decide) ?_
                  refine rb_iload rfl ?_
                  refine rb_binL (z := 47) (by decide) ?_
                  refine rb_push ?_
                  refine rb_iast rfl (by decide) (ok_lt (okL.sA (okL.sA (okL.sA (okL.sA (okL.sA (okL.sA (okL.sA (okL.sA (okL.sA (okL.sA (okL.sA (okL.sA (okL.sA (okL.sA (okL.sA (okL.sA (okL.sA (okL.sA (okL.sA (okL.sA (okL.sA (okL.sA (okL.sA (okL.sA (okL.sA (okL.sA (okL.sA (okL.sA (okL.sA (okL.sA (okL.sA (okL.sA (okL.sA (okL.sA (okL.sA (okL.sA (okL.sA (okL.sA (okL.sA (okL.sA (okL.sA (okL.sA (okL.sA (okL.sA (okL.sA (okL.sA (okL.sA (okL.sA (okL.sA (okL.sI (okL.sI s1_ok _ _ _) _ _ _) _ (List.length_set ..)) _ (List.length_set ..)) _ (List.length_set ..)) _ (List.length_set ..)) _ (List.length_set ..)) _ (List.length_set ..)) _ (List.length_set ..)) _ (List.length_set ..)) _ (List.length_set ..)) _ (List.length_set ..)) _ (List.length_set ..)) _ (List.length_set ..)) _ (List.length_set ..)) _ (List.length_set ..)) _ (List.length_set ..)) _ (List.length_set ..)) _ (List.length_set ..)) _ (List.length_set ..)) _ (List.length_set ..)) _ (List.length_set ..)) _ (List.length_set ..)) _ (List.length_set ..)) _ (List.length_set ..)) _ (List.length_set ..)) _ (List.length_set ..)) _ (List.length_set ..)) _ (List.length_set ..)) _ (List.length_set ..)) _ (List.length_set ..)) _ (List.length_set ..)) _ (List.length_set ..)) _ (List.length_set ..)) _ (List.length_set ..)) _ (List.length_set ..)) _ (List.length_set ..)) _ (List.length_set ..)) _ (List.length_set ..)) _ (List.length_set ..)) _ (List.length_set ..)) _ (List.length_set ..)) _ (List.length_set ..)) _ (List.length_set ..)) _ (List.length_set ..)) _ (List.length_set ..)) _ (List.length_set ..)) _ (List.length_set ..)) _ (List.length_set ..)) _ (List.length_set ..)) _ (List.length_set ..)) (c := 85) (n := 96) (by decide) rfl (by decide) (by decide)) (wa_85 _ _) ?_
                  refine rb_iinc (lv' := [some (.ref 68), some (.int 1), some (.int (-1)), some (.int (c)), some (.int 24)]) rfl rfl ?_
                  refine rb_goto ?_
                  refine rn_step rfl ?_
                  refine rb_iload rfl ?_
                  refine rb_push ?_
                  refine rb_cge (fun _ => ?_) (fun h => absurd (by decide) h)
                  refine rn_step rfl ?_
                  refine rb_aload rfl ?_
                  refine rb_getf (v := .ref 84) rfl ?_
                  refine rb_iload rfl ?_
                  refine rb_iald rfl (by decide) (show _ = some (0) from rfl) ?_
                  refine rb_ret rfl rfl
                case h3 => exact (okL.sA (okL.sA (okL.sA (okL.sA (okL.sA (okL.sA (okL.sA (okL.sA (okL.sA (okL.sA (okL.sA (okL.sA (okL.sA (okL.sA (okL.sA (okL.sA (okL.sA (okL.sA (okL.sA (okL.sA (okL.sA (okL.sA (okL.sA (okL.sA (okL.sA (okL.sA (okL.sA (okL.sA (okL.sA (okL.sA (okL.sA (okL.sA (okL.sA (okL.sA (okL.sA (okL.sA (okL.sA (okL.sA (okL.sA (okL.sA (okL.sA (okL.sA (okL.sA (okL.sA (okL.sA (okL.sA (okL.sA (okL.sA (okL.sA (okL.sA (okL.sI (okL.sI s1_ok _ _ _) _ _ _) _ (List.length_set ..)) _ (List.length_set ..)) _ (List.length_set ..)) _ (List.length_set ..)) _ (List.length_set ..)) _ (List.length_set ..)) _ (List.length_set ..)) _ (List.length_set ..)) _ (List.length_set ..)) _ (List.length_set ..)) _ (List.length_set ..)) _ (List.length_set ..)) _ (List.length_set ..)) _ (List.length_set ..)) _ (List.length_set ..)) _ (List.length_set ..)) _ (List.length_set ..)) _ (List.length_set ..)) _ (List.length_set ..)) _ (List.length_set ..)) _ (List.length_set ..)) _ (List.length_set ..)) _ (List.length_set ..)) _ (List.length_set ..)) _ (List.length_set ..)) _ (List.length_set ..)) _ (List.length_set ..)) _ (List.length_set ..)) _ (List.length_set ..)) _ (List.length_set ..)) _ (List.length_set ..)) _ (List.length_set ..)) _ (List.length_set ..)) _ (List.length_set ..)) _ (List.length_set ..)) _ (List.length_set ..)) _ (List.length_set ..)) _ (List.length_set ..)) _ (List.length_set ..)) _ (List.length_set ..)) _ (List.length_set ..)) _ (List.length_set ..)) _ (List.length_set ..)) _ (List.length_set ..)) _ (List.length_set ..)) _ (List.length_set ..)) _ (List.length_set ..)) _ (List.length_set ..)) _ (List.length_set ..)) _ (List.length_set ..))
                case h4 => exact rfl
              ·
                rcases ia_cut (c := 3) hla hha with ⟨hla, hha⟩ | ⟨hla, hha⟩
                ·
                  obtain rfl : a = 2 := ia_one hla hha (by decide) (by decide)
                  apply p1_intro (v := 0)
                  case h1 =>
                    apply ex_X8_sheet
                    refine rn_step rfl ?_
                    refine rb_iload rfl ?_
                    apply rb_callS1
                    case hcl => exact rfl
                    case hc =>
                      apply ex_X8_isSheet
                      refine rn_step rfl ?_
                      refine rb_iload rfl ?_
                      refine rb_push ?_
                      refine rb_push ?_
                      apply rb_callS3
                      case hcl => exact rfl
                      case hc =>
                        apply ex_X8_within
                        refine rn_step rfl ?_
                        refine rb_iload rfl ?_
                        refine rb_iload rfl ?_
                        refine rb_clt (fun h => absurd h (by decide)) (fun _ => ?_)
                        refine rb_iload rfl ?_
                        refine rb_iload rfl ?_
                        refine rb_cgt (fun h => absurd h (by decide)) (fun _ => ?_)
                        refine rb_push ?_
                        refine rb_goto ?_
                        refine rn_step rfl ?_
                        refine rb_ret rfl rfl
                      refine rb_ret rfl rfl
                    refine rb_ieq (fun h => absurd h (by decide)) (fun _ => ?_)
                    refine rb_iload rfl ?_
                    refine rb_push ?_
                    refine rb_push ?_
                    apply rb_callS3
                    case hcl => exact rfl
                    case hc =>
                      apply ex_X8_within
                      refine rn_step rfl ?_
                      refine rb_iload rfl ?_
                      refine rb_iload rfl ?_
                      refine rb_clt (fun h => absurd h (by decide)) (fun _ => ?_)
                      refine rb_iload rfl ?_
                      refine rb_iload rfl ?_
                      refine rb_cgt (fun h => absurd h (by decide)) (fun _ => ?_)
                      refine rb_push ?_
                      refine rb_goto ?_
                      refine rn_step rfl ?_
                      refine rb_ret rfl rfl
                    refine rb_ine (fun _ => ?_) (fun h => absurd (by decide) h)
                    refine rn_step rfl ?_
                    refine rb_iload rfl ?_
                    refine rb_push ?_
                    refine rb_cne (fun h => absurd (by decide) h) (fun _ => ?_)
                    refine rb_aload rfl ?_
                    refine rb_getf (v := .ref 42) rfl ?_
                    refine rb_iload rfl ?_
                    refine rb_aaldR rfl (by decide) rfl ?_
                    refine rb_push ?_
                    refine rb_push ?_
                    apply rb_callV2v
                    case hb => exact rfl
                    case hcl => exact rfl
                    case hc =>
                      apply ex_X2_become
                      refine rn_step rfl ?_
                      refine rb_aload rfl ?_
                      refine rb_iload rfl ?_
                      refine rb_putI (pf_49_1 _ _) ?_
                      refine rb_aload rfl ?_
                      refine rb_iload rfl ?_
                      refine rb_putI (pf_49_2 _ _) ?_
                      refine rb_aload rfl ?_
                      refine rb_getf (v := .ref 50) rfl ?_
                      refine rb_push ?_
                      apply rb_callS2v
                      case hcl => exact rfl
                      case hc =>
                        apply ex_J7_fill_53178
                        refine rn_step rfl ?_
                        refine rb_push ?_
                        refine rb_istore (lv' := [some (.ref 50), some (.int 0), some (.int 0), none]) rfl ?_
                        refine rb_aload rfl ?_
                        refine rb_alenL (z := 24) rfl rfl ?_
                        refine rb_istore (lv' := [some (.ref 50), some (.int 0), some (.int 0), some (.int 24)]) rfl ?_
                        refine rb_goto ?_
                        refine rn_step rfl ?_
                        refine rb_iload rfl ?_
                        refine rb_iload rfl ?_
                        refine rb_cge (fun h => absurd h (by decide)) (fun _ => ?_)
                        refine rb_aload rfl ?_
                        refine rb_iload rfl ?_
                        refine rb_iload rfl ?_
                        refine rb_iast rfl (by decide) (ok_lt (okL.sI (okL.sI s1_ok _ _ _) _ _ _) (c := 50) (n := 24) (by decide) rfl (by decide) (by decide)) (wa_50 _ _) ?_
                        refine rb_iinc (lv' := [some (.ref 50), some (.int 0), some (.int 1), some (.int 24)]) rfl rfl ?_
                        refine rb_goto ?_
                        refine rn_step rfl ?_
                        refine rb_iload rfl ?_
                        refine rb_iload rfl ?_
                        refine rb_cge (fun h => absurd h (by decide)) (fun _ => ?_)
                        refine rb_aload rfl ?_
                        refine rb_iload rfl ?_
                        refine rb_iload rfl ?_
                        refine rb_iast rfl (by decide) (ok_lt (okL.sA (okL.sI (okL.sI s1_ok _ _ _) _ _ _) _ (List.length_set ..)) (c := 50) (n := 24) (by decide) rfl (by decide) (by decide)) (wa_50 _ _) ?_
                        refine rb_iinc (lv' := [some (.ref 50), some (.int 0), some (.int 2), some (.int 24)]) rfl rfl ?_
                        refine rb_goto ?_
                        refine rn_step rfl ?_
                        refine rb_iload rfl ?_
                        refine rb_iload rfl ?_
                        refine rb_cge (fun h => absurd h (by decide)) (fun _ => ?_)
                        refine rb_aload rfl ?_
                        refine rb_iload rfl ?_
                        refine rb_iload rfl ?_
                        refine rb_iast rfl (by decide) (ok_lt (okL.sA (okL.sA (okL.sI (okL.sI s1_ok _ _ _) _ _ _) _ (List.length_set ..)) _ (List.length_set ..)) (c := 50) (n := 24) (by decide) rfl (by decide) (by decide)) (wa_50 _ _) ?_
                        refine rb_iinc (lv' := [some (.ref 50), some (.int 0), some (.int 3), some (.int 24)]) rfl rfl ?_
                        refine rb_goto ?_
                        refine rn_step rfl ?_
                        refine rb_iload rfl ?_
                        refine rb_iload rfl ?_
                        refine rb_cge (fun h => absurd h (by decide)) (fun _ => ?_)
                        refine rb_aload rfl ?_
                        refine rb_iload rfl ?_
                        refine rb_iload rfl ?_
                        refine rb_iast rfl (by decide) (ok_lt (okL.sA (okL.sA (okL.sA (okL.sI (okL.sI s1_ok _ _ _) _ _ _) _ (List.length_set ..)) _ (List.length_set ..)) _ (List.length_set ..)) (c := 50) (n := 24) (by decide) rfl (by decide) (by decide)) (wa_50 _ _) ?_
                        refine rb_iinc (lv' := [some (.ref 50), some (.int 0), some (.int 4), some (.int 24)]) rfl rfl ?_
                        refine rb_goto ?_
                        refine rn_step rfl ?_
                        refine rb_iload rfl ?_
                        refine rb_iload rfl ?_
                        refine rb_cge (fun h => absurd h (by decide)) (fun _ => ?_)
                        refine rb_aload rfl ?_
                        refine rb_iload rfl ?_
                        refine rb_iload rfl ?_
                        refine rb_iast rfl (by decide) (ok_lt (okL.sA (okL.sA (okL.sA (okL.sA (okL.sI (okL.sI s1_ok _ _ _) _ _ _) _ (List.length_set ..)) _ (List.length_set ..)) _ (List.length_set ..)) _ (List.length_set ..)) (c := 50) (n := 24) (by decide) rfl (by decide) (by decide)) (wa_50 _ _) ?_
                        refine rb_iinc (lv' := [some (.ref 50), some (.int 0), some (.int 5), some (.int 24)]) rfl rfl ?_
                        refine rb_goto ?_
                        refine rn_step rfl ?_
                        refine rb_iload rfl ?_
                        refine rb_iload rfl ?_
                        refine rb_cge (fun h => absurd h (by decide)) (fun _ => ?_)
                        refine rb_aload rfl ?_
                        refine rb_iload rfl ?_
                        refine rb_iload rfl ?_
                        refine rb_iast rfl (by decide) (ok_lt (okL.sA (okL.sA (okL.sA (okL.sA (okL.sA (okL.sI (okL.sI s1_ok _ _ _) _ _ _) _ (List.length_set ..)) _ (List.length_set ..)) _ (List.length_set ..)) _ (List.length_set ..)) _ (List.length_set ..)) (c := 50) (n := 24) (by decide) rfl (by decide) (by decide)) (wa_50 _ _) ?_
                        refine rb_iinc (lv' := [some (.ref 50), some (.int 0), some (.int 6), some (.int 24)]) rfl rfl ?_
                        refine rb_goto ?_
                        refine rn_step rfl ?_
                        refine rb_iload rfl ?_
                        refine rb_iload rfl ?_
                        refine rb_cge (fun h => absurd h (by decide)) (fun _ => ?_)
                        refine rb_aload rfl ?_
                        refine rb_iload rfl ?_
                        refine rb_iload rfl ?_
                        refine rb_iast rfl (by decide) (ok_lt (okL.sA (okL.sA (okL.sA (okL.sA (okL.sA (okL.sA (okL.sI (okL.sI s1_ok _ _ _) _ _ _) _ (List.length_set ..)) _ (List.length_set ..)) _ (List.length_set ..)) _ (List.length_set ..)) _ (List.length_set ..)) _ (List.length_set ..)) (c := 50) (n := 24) (by decide) rfl (by decide) (by decide)) (wa_50 _ _) ?_
                        refine rb_iinc (lv' := [some (.ref 50), some (.int 0), some (.int 7), some (.int 24)]) rfl rfl ?_
                        refine rb_goto ?_
                        refine rn_step rfl ?_
                        refine rb_iload rfl ?_
                        refine rb_iload rfl ?_
                        refine rb_cge (fun h => absurd h (by decide)) (fun _ => ?_)
                        refine rb_aload rfl ?_
                        refine rb_iload rfl ?_
                        refine rb_iload rfl ?_
                        refine rb_iast rfl (by decide) (ok_lt (okL.sA (okL.sA (okL.sA (okL.sA (okL.sA (okL.sA (okL.sA (okL.sI (okL.sI s1_ok _ _ _) _ _ _) _ (List.length_set ..)) _ (List.length_set ..)) _ (List.length_set ..)) _ (List.length_set ..)) _ (List.length_set ..)) _ (List.length_set ..)) _ (List.length_set ..)) (c := 50) (n := 24) (by decide) rfl (by decide) (by decide)) (wa_50 _ _) ?_
                        refine rb_iinc (lv' := [some (.ref 50), some (.int 0), some (.int 8), some (.int 24)]) rfl rfl ?_
                        refine rb_goto ?_
                        refine rn_step rfl ?_
                        refine rb_iload rfl ?_
                        refine rb_iload rfl ?_
                        refine rb_cge (fun h => absurd h (by decide)) (fun _ => ?_)
                        refine rb_aload rfl ?_
                        refine rb_iload rfl ?_
                        refine rb_iload rfl ?_
                        refine rb_iast rfl (by decide) (ok_lt (okL.sA (okL.sA (okL.sA (okL.sA (okL.sA (okL.sA (okL.sA (okL.sA (okL.sI (okL.sI s1_ok _ _ _) _ _ _) _ (List.length_set ..)) _ (List.length_set ..)) _ (List.length_set ..)) _ (List.length_set ..)) _ (List.length_set ..)) _ (List.length_set ..)) _ (List.length_set ..)) _ (List.length_set ..)) (c := 50) (n := 24) (by decide) rfl (by decide) (by decide)) (wa_50 _ _) ?_
                        refine rb_iinc (lv' := [some (.ref 50), some (.int 0), some (.int 9), some (.int 24)]) rfl rfl ?_
                        refine rb_goto ?_
                        refine rn_step rfl ?_
                        refine rb_iload rfl ?_
                        refine rb_iload rfl ?_
                        refine rb_cge (fun h => absurd h (by decide)) (fun _ => ?_)
                        refine rb_aload rfl ?_
                        refine rb_iload rfl ?_
                        refine rb_iload rfl ?_
                        refine rb_iast rfl (by decide) (ok_lt (okL.sA (okL.sA (okL.sA (okL.sA (okL.sA (okL.sA (okL.sA (okL.sA (okL.sA (okL.sI (okL.sI s1_ok _ _ _) _ _ _) _ (List.length_set ..)) _ (List.length_set ..)) _ (List.length_set ..)) _ (List.length_set ..)) _ (List.length_set ..)) _ (List.length_set ..)) _ (List.length_set ..)) _ (List.length_set ..)) _ (List.length_set ..)) (c := 50) (n := 24) (by decide) rfl (by decide) (by decide)) (wa_50 _ _) ?_
                        refine rb_iinc (lv' := [some (.ref 50), some (.int 0), some (.int 10), some (.int 24)]) rfl rfl ?_
                        refine rb_goto ?_
                        refine rn_step rfl ?_
                        refine rb_iload rfl ?_
                        refine rb_iload rfl ?_
                        refine rb_cge (fun h => absurd h (by decide)) (fun _ => ?_)
                        refine rb_aload rfl ?_
                        refine rb_iload rfl ?_
                        refine rb_iload rfl ?_
                        refine rb_iast rfl (by decide) (ok_lt (okL.sA (okL.sA (okL.sA (okL.sA (okL.sA (okL.sA (okL.sA (okL.sA (okL.sA (okL.sA (okL.sI (okL.sI s1_ok _ _ _) _ _ _) _ (List.length_set ..)) _ (List.length_set ..)) _ (List.length_set ..)) _ (List.length_set ..)) _ (List.length_set ..)) _ (List.length_set ..)) _ (List.length_set ..)) _ (List.length_set ..)) _ (List.length_set ..)) _ (List.length_set ..)) (c := 50) (n := 24) (by decide) rfl (by decide) (by decide)) (wa_50 _ _) ?_
                        refine rb_iinc (lv' := [some (.ref 50), some (.int 0), some (.int 11), some (.int 24)]) rfl rfl ?_
                        refine rb_goto ?_
                        refine rn_step rfl ?_
                        refine rb_iload rfl ?_
                        refine rb_iload rfl ?_
                        refine rb_cge (fun h => absurd h (by decide)) (fun _ => ?_)
                        refine rb_aload rfl ?_
                        refine rb_iload rfl ?_
                        refine rb_iload rfl ?_
                        refine rb_iast rfl (by decide) (ok_lt (okL.sA (okL.sA (okL.sA (okL.sA (okL.sA (okL.sA (okL.sA (okL.sA (okL.sA (okL.sA (okL.sA (okL.sI (okL.sI s1_ok _ _ _) _ _ _) _ (List.length_set ..)) _ (List.length_set ..)) _ (List.length_set ..)) _ (List.length_set ..)) _ (List.length_set ..)) _ (List.length_set ..)) _ (List.length_set ..)) _ (List.length_set ..)) _ (List.length_set ..)) _ (List.length_set ..)) _ (List.length_set ..)) (c := 50) (n := 24) (by decide) rfl (by decide) (by decide)) (wa_50 _ _) ?_
                        refine rb_iinc (lv' := [some (.ref 50), some (.int 0), some (.int 12), some (.int 24)]) rfl rfl ?_
                        refine rb_goto ?_
                        refine rn_step rfl ?_
                        refine rb_iload rfl ?_
                        refine rb_iload rfl ?_
                        refine rb_cge (fun h => absurd h (by decide)) (fun _ => ?_)
                        refine rb_aload rfl ?_
                        refine rb_iload rfl ?_
                        refine rb_iload rfl ?_
                        refine rb_iast rfl (by decide) (ok_lt (okL.sA (okL.sA (okL.sA (okL.sA (okL.sA (okL.sA (okL.sA (okL.sA (okL.sA (okL.sA (okL.sA (okL.sA (okL.sI (okL.sI s1_ok _ _ _) _ _ _) _ (List.length_set ..)) _ (List.length_set ..)) _ (List.length_set ..)) _ (List.length_set ..)) _ (List.length_set ..)) _ (List.length_set ..)) _ (List.length_set ..)) _ (List.length_set ..)) _ (List.length_set ..)) _ (List.length_set ..)) _ (List.length_set ..)) _ (List.length_set ..)) (c := 50) (n := 24) (by decide) rfl (by decide) (by decide)) (wa_50 _ _) ?_
                        refine rb_iinc (lv' := [some (.ref 50), some (.int 0), some (.int 13), some (.int 24)]) rfl rfl ?_
                        refine rb_goto ?_
                        refine rn_step rfl ?_
                        refine rb_iload rfl ?_
                        refine rb_iload rfl ?_
                        refine rb_cge (fun h => absurd h (by decide)) (fun _ => ?_)
                        refine rb_aload rfl ?_
                        refine rb_iload rfl ?_
                        refine rb_iload rfl ?_
                        refine rb_iast rfl (by decide) (ok_lt (okL.sA (okL.sA (okL.sA (okL.sA (okL.sA (okL.sA (okL.sA (okL.sA (okL.sA (okL.sA (okL.sA (okL.sA (okL.sA (okL.sI (okL.sI s1_ok _ _ _) _ _ _) _ (List.length_set ..)) _ (List.length_set ..)) _ (List.length_set ..)) _ (List.length_set ..)) _ (List.length_set ..)) _ (List.length_set ..)) _ (List.length_set ..)) _ (List.length_set ..)) _ (List.length_set ..)) _ (List.length_set ..)) _ (List.length_set ..)) _ (List.length_set ..)) _ (List.length_set ..)) (c := 50) (n := 24) (by decide) rfl (by decide) (by decide)) (wa_50 _ _) ?_
                        refine rb_iinc (lv' := [some (.ref 50), some (.int 0), some (.int 14), some (.int 24)]) rfl rfl ?_
                        refine rb_goto ?_
                        refine rn_step rfl ?_
                        refine rb_iload rfl ?_
                        refine rb_iload rfl ?_
                        refine rb_cge (fun h => absurd h (by decide)) (fun _ => ?_)
                        refine rb_aload rfl ?_
                        refine rb_iload rfl ?_
                        refine rb_iload rfl ?_
                        refine rb_iast rfl (by decide) (ok_lt (okL.sA (okL.sA (okL.sA (okL.sA (okL.sA (okL.sA (okL.sA (okL.sA (okL.sA (okL.sA (okL.sA (okL.sA (okL.sA (okL.sA (okL.sI (okL.sI s1_ok _ _ _) _ _ _) _ (List.length_set ..)) _ (List.length_set ..)) _ (List.length_set ..)) _ (List.length_set ..)) _ (List.length_set ..)) _ (List.length_set ..)) _ (List.length_set ..)) _ (List.length_set ..)) _ (List.length_set ..)) _ (List.length_set ..)) _ (List.length_set ..)) _ (List.length_set ..)) _ (List.length_set ..)) _ (List.length_set ..)) (c := 50) (n := 24) (by decide) rfl (by decide) (by decide)) (wa_50 _ _) ?_
                        refine rb_iinc (lv' := [some (.ref 50), some (.int 0), some (.int 15), some (.int 24)]) rfl rfl ?_
                        refine rb_goto ?_
                        refine rn_step rfl ?_
                        refine rb_iload rfl ?_
                        refine rb_iload rfl ?_
                        refine rb_cge (fun h => absurd h (by decide)) (fun _ => ?_)
                        refine rb_aload rfl ?_
                        refine rb_iload rfl ?_
                        refine rb_iload rfl ?_
                        refine rb_iast rfl (by decide) (ok_lt (okL.sA (okL.sA (okL.sA (okL.sA (okL.sA (okL.sA (okL.sA (okL.sA (okL.sA (okL.sA (okL.sA (okL.sA (okL.sA (okL.sA (okL.sA (okL.sI (okL.sI s1_ok _ _ _) _ _ _) _ (List.length_set ..)) _ (List.length_set ..)) _ (List.length_set ..)) _ (List.length_set ..)) _ (List.length_set ..)) _ (List.length_set ..)) _ (List.length_set ..)) _ (List.length_set ..)) _ (List.length_set ..)) _ (List.length_set ..)) _ (List.length_set ..)) _ (List.length_set ..)) _ (List.length_set ..)) _ (List.length_set ..)) _ (List.length_set ..)) (c := 50) (n := 24) (by decide) rfl (by decide) (by decide)) (wa_50 _ _) ?_
                        refine rb_iinc (lv' := [some (.ref 50), some (.int 0), some (.int 16), some (.int 24)]) rfl rfl ?_
                        refine rb_goto ?_
                        refine rn_step rfl ?_
                        refine rb_iload rfl ?_
                        refine rb_iload rfl ?_
                        refine rb_cge (fun h => absurd h (by decide)) (fun _ => ?_)
                        refine rb_aload rfl ?_
                        refine rb_iload rfl ?_
                        refine rb_iload rfl ?_
                        refine rb_iast rfl (by decide) (ok_lt (okL.sA (okL.sA (okL.sA (okL.sA (okL.sA (okL.sA (okL.sA (okL.sA (okL.sA (okL.sA (okL.sA (okL.sA (okL.sA (okL.sA (okL.sA (okL.sA (okL.sI (okL.sI s1_ok _ _ _) _ _ _) _ (List.length_set ..)) _ (List.length_set ..)) _ (List.length_set ..)) _ (List.length_set ..)) _ (List.length_set ..)) _ (List.length_set ..)) _ (List.length_set ..)) _ (List.length_set ..)) _ (List.length_set ..)) _ (List.length_set ..)) _ (List.length_set ..)) _ (List.length_set ..)) _ (List.length_set ..)) _ (List.length_set ..)) _ (List.length_set ..)) _ (List.length_set ..)) (c := 50) (n := 24) (by decide) rfl (by decide) (by decide)) (wa_50 _ _) ?_
                        refine rb_iinc (lv' := [some (.ref 50), some (.int 0), some (.int 17), some (.int 24)]) rfl rfl ?_
                        refine rb_goto ?_
                        refine rn_step rfl ?_
                        refine rb_iload rfl ?_
                        refine rb_iload rfl ?_
                        refine rb_cge (fun h => absurd h (by decide)) (fun _ => ?_)
                        refine rb_aload rfl ?_
                        refine rb_iload rfl ?_
                        refine rb_iload rfl ?_
                        refine rb_iast rfl (by decide) (ok_lt (okL.sA (okL.sA (okL.sA (okL.sA (okL.sA (okL.sA (okL.sA (okL.sA (okL.sA (okL.sA (okL.sA (okL.sA (okL.sA (okL.sA (okL.sA (okL.sA (okL.sA (okL.sI (okL.sI s1_ok _ _ _) _ _ _) _ (List.length_set ..)) _ (List.length_set ..)) _ (List.length_set ..)) _ (List.length_set ..)) _ (List.length_set ..)) _ (List.length_set ..)) _ (List.length_set ..)) _ (List.length_set ..)) _ (List.length_set ..)) _ (List.length_set ..)) _ (List.length_set ..)) _ (List.length_set ..)) _ (List.length_set ..)) _ (List.length_set ..)) _ (List.length_set ..)) _ (List.length_set ..)) _ (List.length_set ..)) (c := 50) (n := 24) (by decide) rfl (by decide) (by decide)) (wa_50 _ _) ?_
                        refine rb_iinc (lv' := [some (.ref 50), some (.int 0), some (.int 18), some (.int 24)]) rfl rfl ?_
                        refine rb_goto ?_
                        refine rn_step rfl ?_
                        refine rb_iload rfl ?_
                        refine rb_iload rfl ?_
                        refine rb_cge (fun h => absurd h (by decide)) (fun _ => ?_)
                        refine rb_aload rfl ?_
                        refine rb_iload rfl ?_
                        refine rb_iload rfl ?_
                        refine rb_iast rfl (by decide) (ok_lt (okL.sA (okL.sA (okL.sA (okL.sA (okL.sA (okL.sA (okL.sA (okL.sA (okL.sA (okL.sA (okL.sA (okL.sA (okL.sA (okL.sA (okL.sA (okL.sA (okL.sA (okL.sA (okL.sI (okL.sI s1_ok _ _ _) _ _ _) _ (List.length_set ..)) _ (List.length_set ..)) _ (List.length_set ..)) _ (List.length_set ..)) _ (List.length_set ..)) _ (List.length_set ..)) _ (List.length_set ..)) _ (List.length_set ..)) _ (List.length_set ..)) _ (List.length_set ..)) _ (List.length_set ..)) _ (List.length_set ..)) _ (List.length_set ..)) _ (List.length_set ..)) _ (List.length_set ..)) _ (List.length_set ..)) _ (List.length_set ..)) _ (List.length_set ..)) (c := 50) (n := 24) (by decide) rfl (by decide) (by decide)) (wa_50 _ _) ?_
                        refine rb_iinc (lv' := [some (.ref 50), some (.int 0), some (.int 19), some (.int 24)]) rfl rfl ?_
                        refine rb_goto ?_
                        refine rn_step rfl ?_
                        refine rb_iload rfl ?_
                        refine rb_iload rfl ?_
                        refine rb_cge (fun h => absurd h (by decide)) (fun _ => ?_)
                        refine rb_aload rfl ?_
                        refine rb_iload rfl ?_
                        refine rb_iload rfl ?_
                        refine rb_iast rfl (by decide) (ok_lt (okL.sA (okL.sA (okL.sA (okL.sA (okL.sA (okL.sA (okL.sA (okL.sA (okL.sA (okL.sA (okL.sA (okL.sA (okL.sA (okL.sA (okL.sA (okL.sA (okL.sA (okL.sA (okL.sA (okL.sI (okL.sI s1_ok _ _ _) _ _ _) _ (List.length_set ..)) _ (List.length_set ..)) _ (List.length_set ..)) _ (List.length_set ..)) _ (List.length_set ..)) _ (List.length_set ..)) _ (List.length_set ..)) _ (List.length_set ..)) _ (List.length_set ..)) _ (List.length_set ..)) _ (List.length_set ..)) _ (List.length_set ..)) _ (List.length_set ..)) _ (List.length_set ..)) _ (List.length_set ..)) _ (List.length_set ..)) _ (List.length_set ..)) _ (List.length_set ..)) _ (List.length_set ..)) (c := 50) (n := 24) (by decide) rfl (by decide) (by decide)) (wa_50 _ _) ?_
                        refine rb_iinc (lv' := [some (.ref 50), some (.int 0), some (.int 20), some (.int 24)]) rfl rfl ?_
                        refine rb_goto ?_
                        refine rn_step rfl ?_
                        refine rb_iload rfl ?_
                        refine rb_iload rfl ?_
                        refine rb_cge (fun h => absurd h (by decide)) (fun _ => ?_)
                        refine rb_aload rfl ?_
                        refine rb_iload rfl ?_
                        refine rb_iload rfl ?_
                        refine rb_iast rfl (by decide) (ok_lt (okL.sA (okL.sA (okL.sA (okL.sA (okL.sA (okL.sA (okL.sA (okL.sA (okL.sA (okL.sA (okL.sA (okL.sA (okL.sA (okL.sA (okL.sA (okL.sA (okL.sA (okL.sA (okL.sA (okL.sA (okL.sI (okL.sI s1_ok _ _ _) _ _ _) _ (List.length_set ..)) _ (List.length_set ..)) _ (List.length_set ..)) _ (List.length_set ..)) _ (List.length_set ..)) _ (List.length_set ..)) _ (List.length_set ..)) _ (List.length_set ..)) _ (List.length_set ..)) _ (List.length_set ..)) _ (List.length_set ..)) _ (List.length_set ..)) _ (List.length_set ..)) _ (List.length_set ..)) _ (List.length_set ..)) _ (List.length_set ..)) _ (List.length_set ..)) _ (List.length_set ..)) _ (List.length_set ..)) _ (List.length_set ..)) (c := 50) (n := 24) (by decide) rfl (by decide) (by decide)) (wa_50 _ _) ?_
                        refine rb_iinc (lv' := [some (.ref 50), some (.int 0), some (.int 21), some (.int 24)]) rfl rfl ?_
                        refine rb_goto ?_
                        refine rn_step rfl ?_
                        refine rb_iload rfl ?_
                        refine rb_iload rfl ?_
                        refine rb_cge (fun h => absurd h (by decide)) (fun _ => ?_)
                        refine rb_aload rfl ?_
                        refine rb_iload rfl ?_
                        refine rb_iload rfl ?_
                        refine rb_iast rfl (by decide) (ok_lt (okL.sA (okL.sA (okL.sA (okL.sA (okL.sA (okL.sA (okL.sA (okL.sA (okL.sA (okL.sA (okL.sA (okL.sA (okL.sA (okL.sA (okL.sA (okL.sA (okL.sA (okL.sA (okL.sA (okL.sA (okL.sA (okL.sI (okL.sI s1_ok _ _ _) _ _ _) _ (List.length_set ..)) _ (List.length_set ..)) _ (List.length_set ..)) _ (List.length_set ..)) _ (List.length_set ..)) _ (List.length_set ..)) _ (List.length_set ..)) _ (List.length_set ..)) _ (List.length_set ..)) _ (List.length_set ..)) _ (List.length_set ..)) _ (List.length_set ..)) _ (List.length_set ..)) _ (List.length_set ..)) _ (List.length_set ..)) _ (List.length_set ..)) _ (List.length_set ..)) _ (List.length_set ..)) _ (List.length_set ..)) _ (List.length_set ..)) _ (List.length_set ..)) (c := 50) (n := 24) (by decide) rfl (by decide) (by decide)) (wa_50 _ _) ?_
                        refine rb_iinc (lv' := [some (.ref 50), some (.int 0), some (.int 22), some (.int 24)]) rfl rfl ?_
                        refine rb_goto ?_
                        refine rn_step rfl ?_
                        refine rb_iload rfl ?_
                        refine rb_iload rfl ?_
                        refine rb_cge (fun h => absurd h (by decide)) (fun _ => ?_)
                        refine rb_aload rfl ?_
                        refine rb_iload rfl ?_
                        refine rb_iload rfl ?_
                        refine rb_iast rfl (by decide) (ok_lt (okL.sA (okL.sA (okL.sA (okL.sA (okL.sA (okL.sA (okL.sA (okL.sA (okL.sA (okL.sA (okL.sA (okL.sA (okL.sA (okL.sA (okL.sA (okL.sA (okL.sA (okL.sA (okL.sA (okL.sA (okL.sA (okL.sA (okL.sI (okL.sI s1_ok _ _ _) _ _ _) _ (List.length_set ..)) _ (List.length_set ..)) _ (List.length_set ..)) _ (List.length_set ..)) _ (List.length_set ..)) _ (List.length_set ..)) _ (List.length_set ..)) _ (List.length_set ..)) _ (List.length_set ..)) _ (List.length_set ..)) _ (List.length_set ..)) _ (List.length_set ..)) _ (List.length_set ..)) _ (List.length_set ..)) _ (List.length_set ..)) _ (List.length_set ..)) _ (List.length_set ..)) _ (List.length_set ..)) _ (List.length_set ..)) _ (List.length_set ..)) _ (List.length_set ..)) _ (List.length_set ..)) (c := 50) (n := 24) (by decide) rfl (by decide) (by decide)) (wa_50 _ _) ?_
                        refine rb_iinc (lv' := [some (.ref 50), some (.int 0), some (.int 23), some (.int 24)]) rfl rfl ?_
                        refine rb_goto ?_
                        refine rn_step rfl ?_
                        refine rb_iload rfl ?_
                        refine rb_iload rfl ?_
                        refine rb_cge (fun h => absurd h (by decide)) (fun _ => ?_)
                        refine rb_aload rfl ?_
                        refine rb_iload rfl ?_
                        refine rb_iload rfl ?_
                        refine rb_iast rfl (by decide) (ok_lt (okL.sA (okL.sA (okL.sA (okL.sA (okL.sA (okL.sA (okL.sA (okL.sA (okL.sA (okL.sA (okL.sA (okL.sA (okL.sA (okL.sA (okL.sA (okL.sA (okL.sA (okL.sA (okL.sA (okL.sA (okL.sA (okL.sA (okL.sA (okL.sI (okL.sI s1_ok _ _ _) _ _ _) _ (List.length_set ..)) _ (List.length_set ..)) _ (List.length_set ..)) _ (List.length_set ..)) _ (List.length_set ..)) _ (List.length_set ..)) _ (List.length_set ..)) _ (List.length_set ..)) _ (List.length_set ..)) _ (List.length_set ..)) _ (List.length_set ..)) _ (List.length_set ..)) _ (List.length_set ..)) _ (List.length_set ..)) _ (List.length_set ..)) _ (List.length_set ..)) _ (List.length_set ..)) _ (List.length_set ..)) _ (List.length_set ..)) _ (List.length_set ..)) _ (List.length_set ..)) _ (List.length_set ..)) _ (List.length_set ..)) (c := 50) (n := 24) (by decide) rfl (by decide) (by decide)) (wa_50 _ _) ?_
                        refine rb_iinc (lv' := [some (.ref 50), some (.int 0), some (.int 24), some (.int 24)]) rfl rfl ?_
                        refine rb_goto ?_
                        refine rn_step rfl ?_
                        refine rb_iload rfl ?_
                        refine rb_iload rfl ?_
                        refine rb_cge (fun _ => ?_) (fun h => absurd (by decide) h)
                        refine rn_step rfl ?_
                        refine rb_retv rfl
                      refine rb_retv rfl
                    refine rb_push ?_
                    refine rb_ret rfl rfl
                  case h2 =>
                    apply ex_X9_sheet
                    refine rn_step rfl ?_
                    refine rb_iload rfl ?_
                    apply rb_callS1
                    case hcl => exact rfl
                    case hc =>
                      apply ex_X9_isSheet
                      refine rn_step rfl ?_
                      refine rb_iload rfl ?_
                      refine rb_push ?_
                      refine rb_push ?_
                      apply rb_callS3
                      case hcl => exact rfl
                      case hc =>
                        apply ex_X9_in
                        refine rn_step rfl ?_
                        refine rb_iload rfl ?_
                        refine rb_iload rfl ?_
                        refine rb_clt (fun h => absurd h (by decide)) (fun _ => ?_)
                        refine rb_iload rfl ?_
                        refine rb_iload rfl ?_
                        refine rb_cgt (fun h => absurd h (by decide)) (fun _ => ?_)
                        refine rb_push ?_
                        refine rb_goto ?_
                        refine rn_step rfl ?_
                        refine rb_ret rfl rfl
                      refine rb_ret rfl rfl
                    refine rb_ieq (fun h => absurd h (by decide)) (fun _ => ?_)
                    refine rb_iload rfl ?_
                    refine rb_push ?_
                    refine rb_push ?_
                    apply rb_callS3
                    case hcl => exact rfl
                    case hc =>
                      apply ex_X9_in
                      refine rn_step rfl ?_
                      refine rb_iload rfl ?_
                      refine rb_iload rfl ?_
                      refine rb_clt (fun h => absurd h (by decide)) (fun _ => ?_)
                      refine rb_iload rfl ?_
                      refine rb_iload rfl ?_
                      refine rb_cgt (fun h => absurd h (by decide)) (fun _ => ?_)
                      refine rb_push ?_
                      refine rb_goto ?_
                      refine rn_step rfl ?_
                      refine rb_ret rfl rfl
                    refine rb_ieq (fun h => absurd h (by decide)) (fun _ => ?_)
                    refine rb_iload rfl ?_
                    refine rb_ilt (fun _ => ?_) (fun h => absurd (by decide) h)
                    refine rn_step rfl ?_
                    refine rb_iload rfl ?_
                    refine rb_ilt (fun _ => ?_) (fun h => absurd (by decide) h)
                    refine rn_step rfl ?_
                    refine rb_aload rfl ?_
                    refine rb_getf (v := .ref 83) rfl ?_
                    refine rb_iload rfl ?_
                    refine rb_iload rfl ?_
                    refine rb_iast rfl (by decide) (ok_lt (okL.sA (okL.sA (okL.sA (okL.sA (okL.sA (okL.sA (okL.sA (okL.sA (okL.sA (okL.sA (okL.sA (okL.sA (okL.sA (okL.sA (okL.sA (okL.sA (okL.sA (okL.sA (okL.sA (okL.sA (okL.sA (okL.sA (okL.sA (okL.sA (okL.sI (okL.sI s1_ok _ _ _) _ _ _) _ (List.length_set ..)) _ (List.length_set ..)) _ (List.length_set ..)) _ (List.length_set ..)) _ (List.length_set ..)) _ (List.length_set ..)) _ (List.length_set ..)) _ (List.length_set ..)) _ (List.length_set ..)) _ (List.length_set ..)) _ (List.length_set ..)) _ (List.length_set ..)) _ (List.length_set ..)) _ (List.length_set ..)) _ (List.length_set ..)) _ (List.length_set ..)) _ (List.length_set ..)) _ (List.length_set ..)) _ (List.length_set ..)) _ (List.length_set ..)) _ (List.length_set ..)) _ (List.length_set ..)) _ (List.length_set ..)) _ (List.length_set ..)) (c := 83) (n := 4) (by decide) rfl (by decide) (by decide)) (wa_83 _ _) ?_
                    refine rb_aload rfl ?_
                    refine rb_getf (v := .ref 84) rfl ?_
                    refine rb_iload rfl ?_
                    refine rb_iload rfl ?_
                    refine rb_ige (fun h => absurd h (by decide)) (fun _ => ?_)
                    refine rb_push ?_
                    refine rb_goto ?_
                    refine rn_step rfl ?_
                    refine rb_iast rfl (by decide) (ok_lt (okL.sA (okL.sA (okL.sA (okL.sA (okL.sA (okL.sA (okL.sA (okL.sA (okL.sA (okL.sA (okL.sA (okL.sA (okL.sA (okL.sA (okL.sA (okL.sA (okL.sA (okL.sA (okL.sA (okL.sA (okL.sA (okL.sA (okL.sA (okL.sA (okL.sA (okL.sI (okL.sI s1_ok _ _ _) _ _ _) _ (List.length_set ..)) _ (List.length_set ..)) _ (List.length_set ..)) _ (List.length_set ..)) _ (List.length_set ..)) _ (List.length_set ..)) _ (List.length_set ..)) _ (List.length_set ..)) _ (List.length_set ..)) _ (List.length_set ..)) _ (List.length_set ..)) _ (List.length_set ..)) _ (List.length_set ..)) _ (List.length_set ..)) _ (List.length_set ..)) _ (List.length_set ..)) _ (List.length_set ..)) _ (List.length_set ..)) _ (List.length_set ..)) _ (List.length_set ..)) _ (List.length_set ..)) _ (List.length_set ..)) _ (List.length_set ..)) _ (List.length_set ..)) _ (List.length_set ..)) (c := 84) (n := 4) (by decide) rfl (by decide) (by decide)) (wa_84 _ _) ?_
                    refine rb_push ?_
                    refine rb_istore (lv' := [some (.ref 68), some (.int 2), some (.int (-1)), some (.int (c)), some (.int 0)]) rfl ?_
                    refine rb_goto ?_
                    refine rn_step rfl ?_
                    refine rb_iload rfl ?_
                    refine rb_push ?_
                    refine rb_cge (fun h => absurd h (by decide)) (fun _ => ?_)
                    refine rb_aload rfl ?_
                    refine rb_getf (v := .ref 85) rfl ?_
                    refine rb_push ?_
                    refine rb_iload rfl ?_
                    refine rb_binL (z := 48) (by decide) ?_
                    refine rb_iload rfl ?_
                    refine rb_binL (z := 48) (by decide) ?_
                    refine rb_push ?_
                    refine rb_iast rfl (by decide) (ok_lt (okL.sA (okL.sA (okL.sA (okL.sA (okL.sA (okL.sA (okL.sA (okL.sA (okL.sA (okL.sA (okL.sA (okL.sA (okL.sA (okL.sA (okL.sA (okL.sA (okL.sA (okL.sA (okL.sA (okL.sA (okL.sA (okL.sA (okL.sA (okL.sA (okL.sA (okL.sA (okL.sI (okL.sI s1_ok _ _ _) _ _ _) _ (List.length_set ..)) _ (List.length_set ..)) _ (List.length_set ..)) _ (List.length_set ..)) _ (List.length_set ..)) _ (List.length_set ..)) _ (List.length_set ..)) _ (List.length_set ..)) _ (List.length_set ..)) _ (List.length_set ..)) _ (List.length_set ..)) _ (List.length_set ..)) _ (List.length_set ..)) _ (List.length_set ..)) _ (List.length_set ..)) _ (List.length_set ..)) _ (List.length_set ..)) _ (List.length_set ..)) _ (List.length_set ..)) _ (List.length_set ..)) _ (List.length_set ..)) _ (List.length_set ..)) _ (List.length_set ..)) _ (List.length_set ..)) _ (List.length_set ..)) _ (List.length_set ..)) (c := 85) (n := 96) (by decide) rfl (by decide) (by decide)) (wa_85 _ _) ?_
                    refine rb_iinc (lv' := [some (.ref 68), some (.int 2), some (.int (-1)), some (.int (c)), some (.int 1)]) rfl rfl ?_
                    refine rb_goto ?_
                    refine rn_step rfl ?_
                    refine rb_iload rfl ?_
                    refine rb_push ?_
                    refine rb_cge (fun h => absurd h (by decide)) (fun _ => ?_)
                    refine rb_aload rfl ?_
                    refine rb_getf (v := .ref 85) rfl ?_
                    refine rb_push ?_
                    refine rb_iload rfl ?_
                    refine rb_binL (z := 48) (by decide) ?_
                    refine rb_iload rfl ?_
                    refine rb_binL (z := 49) (by decide) ?_
                    refine rb_push ?_
                    refine rb_iast rfl (by decide) (ok_lt (okL.sA (okL.sA (okL.sA (okL.sA (okL.sA (okL.sA (okL.sA (okL.sA (okL.sA (okL.sA (okL.sA (okL.sA (okL.sA (okL.sA (okL.sA (okL.sA (okL.sA (okL.sA (okL.sA (okL.sA (okL.sA (okL.sA (okL.sA (okL.sA (okL.sA (okL.sA (okL.sA (okL.sI (okL.sI s1_ok _ _ _) _ _ _) _ (List.length_set ..)) _ (List.length_set ..)) _ (List.length_set ..)) _ (List.length_set ..)) _ (List.length_set ..)) _ (List.length_set ..)) _ (List.length_set ..)) _ (List.length_set ..)) _ (List.length_set ..)) _ (List.length_set ..)) _ (List.length_set ..)) _ (List.length_set ..)) _ (List.length_set ..)) _ (List.length_set ..)) _ (List.length_set ..)) _ (List.length_set ..)) _ (List.length_set ..)) _ (List.length_set ..)) _ (List.length_set ..)) _ (List.length_set ..)) _ (List.length_set ..)) _ (List.length_set ..)) _ (List.length_set ..)) _ (List.length_set ..)) _ (List.length_set ..)) _ (List.length_set ..)) _ (List.length_set ..)) (c := 85) (n := 96) (by decide) rfl (by decide) (by decide)) (wa_85 _ _) ?_
                    refine rb_iinc (lv' := [some (.ref 68), some (.int 2), some (.int (-1)), some (.int (c)), some (.int 2)]) rfl rfl ?_
                    refine rb_goto ?_
                    refine rn_step rfl ?_
                    refine rb_iload rfl ?_
                    refine rb_push ?_
                    refine rb_cge (fun h => absurd h (by decide)) (fun _ => ?_)
                    refine rb_aload rfl ?_
                    refine rb_getf (v := .ref 85) rfl ?_
                    refine rb_push ?_
                    refine rb_iload rfl ?_
                    refine rb_binL (z := 48) (by decide) ?_
                    refine rb_iload rfl ?_
                    refine rb_binL (z := 50) (by decide) ?_
                    refine rb_push ?_
                    refine rb_iast rfl (by decide) (ok_lt (okL.sA (okL.sA (okL.sA (okL.sA (okL.sA (okL.sA (okL.sA (okL.sA (okL.sA (okL.sA (okL.sA (okL.sA (okL.sA (okL.sA (okL.sA (okL.sA (okL.sA (okL.sA (okL.sA (okL.sA (okL.sA (okL.sA (okL.sA (okL.sA (okL.sA (okL.sA (okL.sA (okL.sA (okL.sI (okL.sI s1_ok _ _ _) _ _ _) _ (List.length_set ..)) _ (List.length_set ..)) _ (List.length_set ..)) _ (List.length_set ..)) _ (List.length_set ..)) _ (List.length_set ..)) _ (List.length_set ..)) _ (List.length_set ..)) _ (List.length_set ..)) _ (List.length_set ..)) _ (List.length_set ..)) _ (List.length_set ..)) _ (List.length_set ..)) _ (List.length_set ..)) _ (List.length_set ..)) _ (List.length_set ..)) _ (List.length_set ..)) _ (List.length_set ..)) _ (List.length_set ..)) _ (List.length_set ..)) _ (List.length_set ..)) _ (List.length_set ..)) _ (List.length_set ..)) _ (List.length_set ..)) _ (List.length_set ..)) _ (List.length_set ..)) _ (List.length_set ..)) _ (List.length_set ..)) (c := 85) (n := 96) (by decide) rfl (by decide) (by decide)) (wa_85 _ _) ?_
                    refine rb_iinc (lv' := [some (.ref 68), some (.int 2), some (.int (-1)), some (.int (c)), some (.int 3)]) rfl rfl ?_
                    refine rb_goto ?_
                    refine rn_step rfl ?_
                    refine rb_iload rfl ?_
                    refine rb_push ?_
                    refine rb_cge (fun h => absurd h (by decide)) (fun _ => ?_)
                    refine rb_aload rfl ?_
                    refine rb_getf (v := .ref 85) rfl ?_
                    refine rb_push ?_
                    refine rb_iload rfl ?_
                    refine rb_binL (z := 48) (by decide) ?_
                    refine rb_iload rfl ?_
                    refine rb_binL (z := 51) (by decide) ?_
                    refine rb_push ?_
                    refine rb_iast rfl (by decide) (ok_lt (okL.sA (okL.sA (okL.sA (okL.sA (okL.sA (okL.sA (okL.sA (okL.sA (okL.sA (okL.sA (okL.sA (okL.sA (okL.sA (okL.sA (okL.sA (okL.sA (okL.sA (okL.sA (okL.sA (okL.sA (okL.sA (okL.sA (okL.sA (okL.sA (okL.sA (okL.sA (okL.sA (okL.sA (okL.sA (okL.sI (okL.sI s1_ok _ _ _) _ _ _) _ (List.length_set ..)) _ (List.length_set ..)) _ (List.length_set ..)) _ (List.length_set ..)) _ (List.length_set ..)) _ (List.length_set ..)) _ (List.length_set ..)) _ (List.length_set ..)) _ (List.length_set ..)) _ (List.length_set ..)) _ (List.length_set ..)) _ (List.length_set ..)) _ (List.length_set ..)) _ (List.length_set ..)) _ (List.length_set ..)) _ (List.length_set ..)) _ (List.length_set ..)) _ (List.length_set ..)) _ (List.length_set ..)) _ (List.length_set ..)) _ (List.length_set ..)) _ (List.length_set ..)) _ (List.length_set ..)) _ (List.length_set ..)) _ (List.length_set ..)) _ (List.length_set ..)) _ (List.length_set ..)) _ (List.length_set ..)) _ (List.length_set ..)) (c := 85) (n := 96) (by decide) rfl (by decide) (by decide)) (wa_85 _ _) ?_
                    refine rb_iinc (lv' := [some (.ref 68), some (.int 2), some (.int (-1)), some (.int (c)), some (.int 4)]) rfl rfl ?_
                    refine rb_goto ?_
                    refine rn_step rfl ?_
                    refine rb_iload rfl ?_
                    refine rb_push ?_
                    refine rb_cge (fun h => absurd h (by decide)) (fun _ => ?_)
                    refine rb_aload rfl ?_
                    refine rb_getf (v := .ref 85) rfl ?_
                    refine rb_push ?_
                    refine rb_iload rfl ?_
                    refine rb_binL (z := 48) (by decide) ?_
                    refine rb_iload rfl ?_
                    refine rb_binL (z := 52) (by decide) ?_
                    refine rb_push ?_
                    refine rb_iast rfl (by decide) (ok_lt (okL.sA (okL.sA (okL.sA (okL.sA (okL.sA (okL.sA (okL.sA (okL.sA (okL.sA (okL.sA (okL.sA (okL.sA (okL.sA (okL.sA (okL.sA (okL.sA (okL.sA (okL.sA (okL.sA (okL.sA (okL.sA (okL.sA (okL.sA (okL.sA (okL.sA (okL.sA (okL.sA (okL.sA (okL.sA (okL.sA (okL.sI (okL.sI s1_ok _ _ _) _ _ _) _ (List.length_set ..)) _ (List.length_set ..)) _ (List.length_set ..)) _ (List.length_set ..)) _ (List.length_set ..)) _ (List.length_set ..)) _ (List.length_set ..)) _ (List.length_set ..)) _ (List.length_set ..)) _ (List.length_set ..)) _ (List.length_set ..)) _ (List.length_set ..)) _ (List.length_set ..)) _ (List.length_set ..)) _ (List.length_set ..)) _ (List.length_set ..)) _ (List.length_set ..)) _ (List.length_set ..)) _ (List.length_set ..)) _ (List.length_set ..)) _ (List.length_set ..)) _ (List.length_set ..)) _ (List.length_set ..)) _ (List.length_set ..)) _ (List.length_set ..)) _ (List.length_set ..)) _ (List.length_set ..)) _ (List.length_set ..)) _ (List.length_set ..)) _ (List.length_set ..)) (c := 85) (n := 96) (by decide) rfl (by decide) (by decide)) (wa_85 _ _) ?_
                    refine rb_iinc (lv' := [some (.ref 68), some (.int 2), some (.int (-1)), some (.int (c)), some (.int 5)]) rfl rfl ?_
                    refine rb_goto ?_
                    refine rn_step rfl ?_
                    refine rb_iload rfl ?_
                    refine rb_push ?_
                    refine rb_cge (fun h => absurd h (by decide)) (fun _ => ?_)
                    refine rb_aload rfl ?_
                    refine rb_getf (v := .ref 85) rfl ?_
                    refine rb_push ?_
                    refine rb_iload rfl ?_
                    refine rb_binL (z := 48) (by decide) ?_
                    refine rb_iload rfl ?_
                    refine rb_binL (z := 53) (by decide) ?_
                    refine rb_push ?_
                    refine rb_iast rfl (by decide) (ok_lt (okL.sA (okL.sA (okL.sA (okL.sA (okL.sA (okL.sA (okL.sA (okL.sA (okL.sA (okL.sA (okL.sA (okL.sA (okL.sA (okL.sA (okL.sA (okL.sA (okL.sA (okL.sA (okL.sA (okL.sA (okL.sA (okL.sA (okL.sA (okL.sA (okL.sA (okL.sA (okL.sA (okL.sA (okL.sA (okL.sA (okL.sA (okL.sI (okL.sI s1_ok _ _ _) _ _ _) _ (List.length_set ..)) _ (List.length_set ..)) _ (List.length_set ..)) _ (List.length_set ..)) _ (List.length_set ..)) _ (List.length_set ..)) _ (List.length_set ..)) _ (List.length_set ..)) _ (List.length_set ..)) _ (List.length_set ..)) _ (List.length_set ..)) _ (List.length_set ..)) _ (List.length_set ..)) _ (List.length_set ..)) _ (List.length_set ..)) _ (List.length_set ..)) _ (List.length_set ..)) _ (List.length_set ..)) _ (List.length_set ..)) _ (List.length_set ..)) _ (List.length_set ..)) _ (List.length_set ..)) _ (List.length_set ..)) _ (List.length_set ..)) _ (List.length_set ..)) _ (List.length_set ..)) _ (List.length_set ..)) _ (List.length_set ..)) _ (List.length_set ..)) _ (List.length_set ..)) _ (List.length_set ..)) (c := 85) (n := 96) (by decide) rfl (by decide) (by decide)) (wa_85 _ _) ?_
                    refine rb_iinc (lv' := [some (.ref 68), some (.int 2), some (.int (-1)), some (.int (c)), some (.int 6)]) rfl rfl ?_
                    refine rb_goto ?_
                    refine rn_step rfl ?_
                    refine rb_iload rfl ?_
                    refine rb_push ?_
                    refine rb_cge (fun h => absurd h (by decide)) (fun _ => ?_)
                    refine rb_aload rfl ?_
                    refine rb_getf (v := .ref 85) rfl ?_
                    refine rb_push ?_
                    refine rb_iload rfl ?_
                    refine rb_binL (z := 48) (by decide) ?_
                    refine rb_iload rfl ?_
                    refine rb_binL (z := 54) (by decide) ?_
                    refine rb_push ?_
                    refine rb_iast rfl (by decide) (ok_lt (okL.sA (okL.sA (okL.sA (okL.sA (okL.sA (okL.sA (okL.sA (okL.sA (okL.sA (okL.sA (okL.sA (okL.sA (okL.sA (okL.sA (okL.sA (okL.sA (okL.sA (okL.sA (okL.sA (okL.sA (okL.sA (okL.sA (okL.sA (okL.sA (okL.sA (okL.sA (okL.sA (okL.sA (okL.sA (okL.sA (okL.sA (okL.sA (okL.sI (okL.sI s1_ok _ _ _) _ _ _) _ (List.length_set ..)) _ (List.length_set ..)) _ (List.length_set ..)) _ (List.length_set ..)) _ (List.length_set ..)) _ (List.length_set ..)) _ (List.length_set ..)) _ (List.length_set ..)) _ (List.length_set ..)) _ (List.length_set ..)) _ (List.length_set ..)) _ (List.length_set ..)) _ (List.length_set ..)) _ (List.length_set ..)) _ (List.length_set ..)) _ (List.length_set ..)) _ (List.length_set ..)) _ (List.length_set ..)) _ (List.length_set ..)) _ (List.length_set ..)) _ (List.length_set ..)) _ (List.length_set ..)) _ (List.length_set ..)) _ (List.length_set ..)) _ (List.length_set ..)) _ (List.length_set ..)) _ (List.length_set ..)) _ (List.length_set ..)) _ (List.length_set ..)) _ (List.length_set ..)) _ (List.length_set ..)) _ (List.length_set ..)) (c := 85) (n := 96) (by decide) rfl (by decide) (by decide)) (wa_85 _ _) ?_
                    refine rb_iinc (lv' := [some (.ref 68), some (.int 2), some (.int (-1)), some (.int (c)), some (.int 7)]) rfl rfl ?_
                    refine rb_goto ?_
                    refine rn_step rfl ?_
                    refine rb_iload rfl ?_
                    refine rb_push ?_
                    refine rb_cge (fun h => absurd h (by decide)) (fun _ => ?_)
                    refine rb_aload rfl ?_
                    refine rb_getf (v := .ref 85) rfl ?_
                    refine rb_push ?_
                    refine rb_iload rfl ?_
                    refine rb_binL (z := 48) (by decide) ?_
                    refine rb_iload rfl ?_
                    refine rb_binL (z := 55) (by decide) ?_
                    refine rb_push ?_
                    refine rb_iast rfl (by decide) (ok_lt (okL.sA (okL.sA (okL.sA (okL.sA (okL.sA (okL.sA (okL.sA (okL.sA (okL.sA (okL.sA (okL.sA (okL.sA (okL.sA (okL.sA (okL.sA (okL.sA (okL.sA (okL.sA (okL.sA (okL.sA (okL.sA (okL.sA (okL.sA (okL.sA (okL.sA (okL.sA (okL.sA (okL.sA (okL.sA (okL.sA (okL.sA (okL.sA (okL.sA (okL.sI (okL.sI s1_ok _ _ _) _ _ _) _ (List.length_set ..)) _ (List.length_set ..)) _ (List.length_set ..)) _ (List.length_set ..)) _ (List.length_set ..)) _ (List.length_set ..)) _ (List.length_set ..)) _ (List.length_set ..)) _ (List.length_set ..)) _ (List.length_set ..)) _ (List.length_set ..)) _ (List.length_set ..)) _ (List.length_set ..)) _ (List.length_set ..)) _ (List.length_set ..)) _ (List.length_set ..)) _ (List.length_set ..)) _ (List.length_set ..)) _ (List.length_set ..)) _ (List.length_set ..)) _ (List.length_set ..)) _ (List.length_set ..)) _ (List.length_set ..)) _ (List.length_set ..)) _ (List.length_set ..)) _ (List.length_set ..)) _ (List.length_set ..)) _ (List.length_set ..)) _ (List.length_set ..)) _ (List.length_set ..)) _ (List.length_set ..)) _ (List.length_set ..)) _ (List.length_set ..)) (c := 85) (n := 96) (by decide) rfl (by decide) (by decide)) (wa_85 _ _) ?_
                    refine rb_iinc (lv' := [some (.ref 68), some (.int 2), some (.int (-1)), some (.int (c)), some (.int 8)]) rfl rfl ?_
                    refine rb_goto ?_
                    refine rn_step rfl ?_
                    refine rb_iload rfl ?_
                    refine rb_push ?_
                    refine rb_cge (fun h => absurd h (by decide)) (fun _ => ?_)
                    refine rb_aload rfl ?_
                    refine rb_getf (v := .ref 85) rfl ?_
                    refine rb_push ?_
                    refine rb_iload rfl ?_
                    refine rb_binL (z := 48) (by decide) ?_
                    refine rb_iload rfl ?_
                    refine rb_binL (z := 56) (by decide) ?_
                    refine rb_push ?_
                    refine rb_iast rfl (by decide) (ok_lt (okL.sA (okL.sA (okL.sA (okL.sA (okL.sA (okL.sA (okL.sA (okL.sA (okL.sA (okL.sA (okL.sA (okL.sA (okL.sA (okL.sA (okL.sA (okL.sA (okL.sA (okL.sA (okL.sA (okL.sA (okL.sA (okL.sA (okL.sA (okL.sA (okL.sA (okL.sA (okL.sA (okL.sA (okL.sA (okL.sA (okL.sA (okL.sA (okL.sA (okL.sA (okL.sI (okL.sI s1_ok _ _ _) _ _ _) _ (List.length_set ..)) _ (List.length_set ..)) _ (List.length_set ..)) _ (List.length_set ..)) _ (List.length_set ..)) _ (List.length_set ..)) _ (List.length_set ..)) _ (List.length_set ..)) _ (List.length_set ..)) _ (List.length_set ..)) _ (List.length_set ..)) _ (List.length_set ..)) _ (List.length_set ..)) _ (List.length_set ..)) _ (List.length_set ..)) _ (List.length_set ..)) _ (List.length_set ..)) _ (List.length_set ..)) _ (List.length_set ..)) _ (List.length_set ..)) _ (List.length_set ..)) _ (List.length_set ..)) _ (List.length_set ..)) _ (List.length_set ..)) _ (List.length_set ..)) _ (List.length_set ..)) _ (List.length_set ..)) _ (List.length_set ..)) _ (List.length_set ..)) _ (List.length_set ..)) _ (List.length_set ..)) _ (List.length_set ..)) _ (List.length_set ..)) _ (List.length_set ..)) (c := 85) (n := 96) (by decide) rfl (by decide) (by decide)) (wa_85 _ _) ?_
                    refine rb_iinc (lv' := [some (.ref 68), some (.int 2), some (.int (-1)), some (.int (c)), some (.int 9)]) rfl rfl ?_
                    refine rb_goto ?_
                    refine rn_step rfl ?_
                    refine rb_iload rfl ?_
                    refine rb_push ?_
                    refine rb_cge (fun h => absurd h (by decide)) (fun _ => ?_)
                    refine rb_aload rfl ?_
                    refine rb_getf (v := .ref 85) rfl ?_
                    refine rb_push ?_
                    refine rb_iload rfl ?_
                    refine rb_binL (z := 48) (by decide) ?_
                    refine rb_iload rfl ?_
                    refine rb_binL (z := 57) (by decide) ?_
                    refine rb_push ?_
                    refine rb_iast rfl (by decide) (ok_lt (okL.sA (okL.sA (okL.sA (okL.sA (okL.sA (okL.sA (okL.sA (okL.sA (okL.sA (okL.sA (okL.sA (okL.sA (okL.sA (okL.sA (okL.sA (okL.sA (okL.sA (okL.sA (okL.sA (okL.sA (okL.sA (okL.sA (okL.sA (okL.sA (okL.sA (okL.sA (okL.sA (okL.sA (okL.sA (okL.sA (okL.sA (okL.sA (okL.sA (okL.sA (okL.sA (okL.sI (okL.sI s1_ok _ _ _) _ _ _) _ (List.length_set ..)) _ (List.length_set ..)) _ (List.length_set ..)) _ (List.length_set ..)) _ (List.length_set ..)) _ (List.length_set ..)) _ (List.length_set ..)) _ (List.length_set ..)) _ (List.length_set ..)) _ (List.length_set ..)) _ (List.length_set ..)) _ (List.length_set ..)) _ (List.length_set ..)) _ (List.length_set ..)) _ (List.length_set ..)) _ (List.length_set ..)) _ (List.length_set ..)) _ (List.length_set ..)) _ (List.length_set ..)) _ (List.length_set ..)) _ (List.length_set ..)) _ (List.length_set ..)) _ (List.length_set ..)) _ (List.length_set ..)) _ (List.length_set ..)) _ (List.length_set ..)) _ (List.length_set ..)) _ (List.length_set ..)) _ (List.length_set ..)) _ (List.length_set ..)) _ (List.length_set ..)) _ (List.length_set ..)) _ (List.length_set ..)) _ (List.length_set ..)) _ (List.length_set ..)) (c := 85) (n := 96) (by decide) rfl (by decide) (by decide)) (wa_85 _ _) ?_
                    refine rb_iinc (lv' := [some (.ref 68), some (.int 2), some (.int (-1)), some (.int (c)), some (.int 10)]) rfl rfl ?_
                    refine rb_goto ?_
                    refine rn_step rfl ?_
                    refine rb_iload rfl ?_
                    refine rb_push ?_
                    refine rb_cge (fun h => absurd h (by decide)) (fun _ => ?_)
                    refine rb_aload rfl ?_
                    refine rb_getf (v := .ref 85) rfl ?_
                    refine rb_push ?_
                    refine rb_iload rfl ?_
                    refine rb_binL (z := 48) (by decide) ?_
                    refine rb_iload rfl ?_
                    refine rb_binL (z := 58) (by decide) ?_
                    refine rb_push ?_
                    refine rb_iast rfl (by decide) (ok_lt (okL.sA (okL.sA (okL.sA (okL.sA (okL.sA (okL.sA (okL.sA (okL.sA (okL.sA (okL.sA (okL.sA (okL.sA (okL.sA (okL.sA (okL.sA (okL.sA (okL.sA (okL.sA (okL.sA (okL.sA (okL.sA (okL.sA (okL.sA (okL.sA (okL.sA (okL.sA (okL.sA (okL.sA (okL.sA (okL.sA (okL.sA (okL.sA (okL.sA (okL.sA (okL.sA (okL.sA (okL.sI (okL.sI s1_ok _ _ _) _ _ _) _ (List.length_set ..)) _ (List.length_set ..)) _ (List.length_set ..)) _ (List.length_set ..)) _ (List.length_set ..)) _ (List.length_set ..)) _ (List.length_set ..)) _ (List.length_set ..)) _ (List.length_set ..)) _ (List.length_set ..)) _ (List.length_set ..)) _ (List.length_set ..)) _ (List.length_set ..)) _ (List.length_set ..)) _ (List.length_set ..)) _ (List.length_set ..)) _ (List.length_set ..)) _ (List.length_set ..)) _ (List.length_set ..)) _ (List.length_set ..)) _ (List.length_set ..)) _ (List.length_set ..)) _ (List.length_set ..)) _ (List.length_set ..)) _ (List.length_set ..)) _ (List.length_set ..)) _ (List.length_set ..)) _ (List.length_set ..)) _ (List.length_set ..)) _ (List.length_set ..)) _ (List.length_set ..)) _ (List.length_set ..)) _ (List.length_set ..)) _ (List.length_set ..)) _ (List.length_set ..)) _ (List.length_set ..)) (c := 85) (n := 96) (by decide) rfl (by decide) (by decide)) (wa_85 _ _) ?_
                    refine rb_iinc (lv' := [some (.ref 68), some (.int 2), some (.int (-1)), some (.int (c)), some (.int 11)]) rfl rfl ?_
                    refine rb_goto ?_
                    refine rn_step rfl ?_
                    refine rb_iload rfl ?_
                    refine rb_push ?_
                    refine rb_cge (fun h => absurd h (by decide)) (fun _ => ?_)
                    refine rb_aload rfl ?_
                    refine rb_getf (v := .ref 85) rfl ?_
                    refine rb_push ?_
                    refine rb_iload rfl ?_
                    refine rb_binL (z := 48) (by decide) ?_
                    refine rb_iload rfl ?_
                    refine rb_binL (z := 59) (by decide) ?_
                    refine rb_push ?_
                    refine rb_iast rfl (by decide) (ok_lt (okL.sA (okL.sA (okL.sA (okL.sA (okL.sA (okL.sA (okL.sA (okL.sA (okL.sA (okL.sA (okL.sA (okL.sA (okL.sA (okL.sA (okL.sA (okL.sA (okL.sA (okL.sA (okL.sA (okL.sA (okL.sA (okL.sA (okL.sA (okL.sA (okL.sA (okL.sA (okL.sA (okL.sA (okL.sA (okL.sA (okL.sA (okL.sA (okL.sA (okL.sA (okL.sA (okL.sA (okL.sA (okL.sI (okL.sI s1_ok _ _ _) _ _ _) _ (List.length_set ..)) _ (List.length_set ..)) _ (List.length_set ..)) _ (List.length_set ..)) _ (List.length_set ..)) _ (List.length_set ..)) _ (List.length_set ..)) _ (List.length_set ..)) _ (List.length_set ..)) _ (List.length_set ..)) _ (List.length_set ..)) _ (List.length_set ..)) _ (List.length_set ..)) _ (List.length_set ..)) _ (List.length_set ..)) _ (List.length_set ..)) _ (List.length_set ..)) _ (List.length_set ..)) _ (List.length_set ..)) _ (List.length_set ..)) _ (List.length_set ..)) _ (List.length_set ..)) _ (List.length_set ..)) _ (List.length_set ..)) _ (List.length_set ..)) _ (List.length_set ..)) _ (List.length_set ..)) _ (List.length_set ..)) _ (List.length_set ..)) _ (List.length_set ..)) _ (List.length_set ..)) _ (List.length_set ..)) _ (List.length_set ..)) _ (List.length_set ..)) _ (List.length_set ..)) _ (List.length_set ..)) _ (List.length_set ..)) (c := 85) (n := 96) (by decide) rfl (by decide) (by decide)) (wa_85 _ _) ?_
                    refine rb_iinc (lv' := [some (.ref 68), some (.int 2), some (.int (-1)), some (.int (c)), some (.int 12)]) rfl rfl ?_
                    refine rb_goto ?_
                    refine rn_step rfl ?_
                    refine rb_iload rfl ?_
                    refine rb_push ?_
                    refine rb_cge (fun h => absurd h (by decide)) (fun _ => ?_)
                    refine rb_aload rfl ?_
                    refine rb_getf (v := .ref 85) rfl ?_
                    refine rb_push ?_
                    refine rb_iload rfl ?_
                    refine rb_binL (z := 48) (by decide) ?_
                    refine rb_iload rfl ?_
                    refine rb_binL (z := 60) (by decide) ?_
                    refine rb_push ?_
                    refine rb_iast rfl (by decide) (ok_lt (okL.sA (okL.sA (okL.sA (okL.sA (okL.sA (okL.sA (okL.sA (okL.sA (okL.sA (okL.sA (okL.sA (okL.sA (okL.sA (okL.sA (okL.sA (okL.sA (okL.sA (okL.sA (okL.sA (okL.sA (okL.sA (okL.sA (okL.sA (okL.sA (okL.sA (okL.sA (okL.sA (okL.sA (okL.sA (okL.sA (okL.sA (okL.sA (okL.sA (okL.sA (okL.sA (okL.sA (okL.sA (okL.sA (okL.sI (okL.sI s1_ok _ _ _) _ _ _) _ (List.length_set ..)) _ (List.length_set ..)) _ (List.length_set ..)) _ (List.length_set ..)) _ (List.length_set ..)) _ (List.length_set ..)) _ (List.length_set ..)) _ (List.length_set ..)) _ (List.length_set ..)) _ (List.length_set ..)) _ (List.length_set ..)) _ (List.length_set ..)) _ (List.length_set ..)) _ (List.length_set ..)) _ (List.length_set ..)) _ (List.length_set ..)) _ (List.length_set ..)) _ (List.length_set ..)) _ (List.length_set ..)) _ (List.length_set ..)) _ (List.length_set ..)) _ (List.length_set ..)) _ (List.length_set ..)) _ (List.length_set ..)) _ (List.length_set ..)) _ (List.length_set ..)) _ (List.length_set ..)) _ (List.length_set ..)) _ (List.length_set ..)) _ (List.length_set ..)) _ (List.length_set ..)) _ (List.length_set ..)) _ (List.length_set ..)) _ (List.length_set ..)) _ (List.length_set ..)) _ (List.length_set ..)) _ (List.length_set ..)) _ (List.length_set ..)) (c := 85) (n := 96) (by decide) rfl (by decide) (by decide)) (wa_85 _ _) ?_
                    refine rb_iinc (lv' := [some (.ref 68), some (.int 2), some (.int (-1)), some (.int (c)), some (.int 13)]) rfl rfl ?_
                    refine rb_goto ?_
                    refine rn_step rfl ?_
                    refine rb_iload rfl ?_
                    refine rb_push ?_
                    refine rb_cge (fun h => absurd h (by decide)) (fun _ => ?_)
                    refine rb_aload rfl ?_
                    refine rb_getf (v := .ref 85) rfl ?_
                    refine rb_push ?_
                    refine rb_iload rfl ?_
                    refine rb_binL (z := 48) (by decide) ?_
                    refine rb_iload rfl ?_
                    refine rb_binL (z := 61) (by decide) ?_
                    refine rb_push ?_
                    refine rb_iast rfl (by decide) (ok_lt (okL.sA (okL.sA (okL.sA (okL.sA (okL.sA (okL.sA (okL.sA (okL.sA (okL.sA (okL.sA (okL.sA (okL.sA (okL.sA (okL.sA (okL.sA (okL.sA (okL.sA (okL.sA (okL.sA (okL.sA (okL.sA (okL.sA (okL.sA (okL.sA (okL.sA (okL.sA (okL.sA (okL.sA (okL.sA (okL.sA (okL.sA (okL.sA (okL.sA (okL.sA (okL.sA (okL.sA (okL.sA (okL.sA (okL.sA (okL.sI (okL.sI s1_ok _ _ _) _ _ _) _ (List.length_set ..)) _ (List.length_set ..)) _ (List.length_set ..)) _ (List.length_set ..)) _ (List.length_set ..)) _ (List.length_set ..)) _ (List.length_set ..)) _ (List.length_set ..)) _ (List.length_set ..)) _ (List.length_set ..)) _ (List.length_set ..)) _ (List.length_set ..)) _ (List.length_set ..)) _ (List.length_set ..)) _ (List.length_set ..)) _ (List.length_set ..)) _ (List.length_set ..)) _ (List.length_set ..)) _ (List.length_set ..)) _ (List.length_set ..)) _ (List.length_set ..)) _ (List.length_set ..)) _ (List.length_set ..)) _ (List.length_set ..)) _ (List.length_set ..)) _ (List.length_set ..)) _ (List.length_set ..)) _ (List.length_set ..)) _ (List.length_set ..)) _ (List.length_set ..)) _ (List.length_set ..)) _ (List.length_set ..)) _ (List.length_set ..)) _ (List.length_set ..)) _ (List.length_set ..)) _ (List.length_set ..)) _ (List.length_set ..)) _ (List.length_set ..)) _ (List.length_set ..)) (c := 85) (n := 96) (by decide) rfl (by decide) (by decide)) (wa_85 _ _) ?_
                    refine rb_iinc (lv' := [some (.ref 68), some (.int 2), some (.int (-1)), some (.int (c)), some (.int 14)]) rfl rfl ?_
                    refine rb_goto ?_
                    refine rn_step rfl ?_
                    refine rb_iload rfl ?_
                    refine rb_push ?_
                    refine rb_cge (fun h => absurd h (by decide)) (fun _ => ?_)
                    refine rb_aload rfl ?_
                    refine rb_getf (v := .ref 85) rfl ?_
                    refine rb_push ?_
                    refine rb_iload rfl ?_
                    refine rb_binL (z := 48) (by decide) ?_
                    refine rb_iload rfl ?_
                    refine rb_binL (z := 62) (by decide) ?_
                    refine rb_push ?_
                    refine rb_iast rfl (by decide) (ok_lt (okL.sA (okL.sA (okL.sA (okL.sA (okL.sA (okL.sA (okL.sA (okL.sA (okL.sA (okL.sA (okL.sA (okL.sA (okL.sA (okL.sA (okL.sA (okL.sA (okL.sA (okL.sA (okL.sA (okL.sA (okL.sA (okL.sA (okL.sA (okL.sA (okL.sA (okL.sA (okL.sA (okL.sA (okL.sA (okL.sA (okL.sA (okL.sA (okL.sA (okL.sA (okL.sA (okL.sA (okL.sA (okL.sA (okL.sA (okL.sA (okL.sI (okL.sI s1_ok _ _ _) _ _ _) _ (List.length_set ..)) _ (List.length_set ..)) _ (List.length_set ..)) _ (List.length_set ..)) _ (List.length_set ..)) _ (List.length_set ..)) _ (List.length_set ..)) _ (List.length_set ..)) _ (List.length_set ..)) _ (List.length_set ..)) _ (List.length_set ..)) _ (List.length_set ..)) _ (List.length_set ..)) _ (List.length_set ..)) _ (List.length_set ..)) _ (List.length_set ..)) _ (List.length_set ..)) _ (List.length_set ..)) _ (List.length_set ..)) _ (List.length_set ..)) _ (List.length_set ..)) _ (List.length_set ..)) _ (List.length_set ..)) _ (List.length_set ..)) _ (List.length_set ..)) _ (List.length_set ..)) _ (List.length_set ..)) _ (List.length_set ..)) _ (List.length_set ..)) _ (List.length_set ..)) _ (List.length_set ..)) _ (List.length_set ..)) _ (List.length_set ..)) _ (List.length_set ..)) _ (List.length_set ..)) _ (List.length_set ..)) _ (List.length_set ..)) _ (List.length_set ..)) _ (List.length_set ..)) _ (List.length_set ..)) (c := 85) (n := 96) (by decide) rfl (by decide) (by decide)) (wa_85 _ _) ?_
                    refine rb_iinc (lv' := [some (.ref 68), some (.int 2), some (.int (-1)), some (.int (c)), some (.int 15)]) rfl rfl ?_
                    refine rb_goto ?_
                    refine rn_step rfl ?_
                    refine rb_iload rfl ?_
                    refine rb_push ?_
                    refine rb_cge (fun h => absurd h (by decide)) (fun _ => ?_)
                    refine rb_aload rfl ?_
                    refine rb_getf (v := .ref 85) rfl ?_
                    refine rb_push ?_
                    refine rb_iload rfl ?_
                    refine rb_binL (z := 48) (by decide) ?_
                    refine rb_iload rfl ?_
                    refine rb_binL (z := 63) (by decide) ?_
                    refine rb_push ?_
                    refine rb_iast rfl (by decide) (ok_lt (okL.sA (okL.sA (okL.sA (okL.sA (okL.sA (okL.sA (okL.sA (okL.sA (okL.sA (okL.sA (okL.sA (okL.sA (okL.sA (okL.sA (okL.sA (okL.sA (okL.sA (okL.sA (okL.sA (okL.sA (okL.sA (okL.sA (okL.sA (okL.sA (okL.sA (okL.sA (okL.sA (okL.sA (okL.sA (okL.sA (okL.sA (okL.sA (okL.sA (okL.sA (okL.sA (okL.sA (okL.sA (okL.sA (okL.sA (okL.sA (okL.sA (okL.sI (okL.sI s1_ok _ _ _) _ _ _) _ (List.length_set ..)) _ (List.length_set ..)) _ (List.length_set ..)) _ (List.length_set ..)) _ (List.length_set ..)) _ (List.length_set ..)) _ (List.length_set ..)) _ (List.length_set ..)) _ (List.length_set ..)) _ (List.length_set ..)) _ (List.length_set ..)) _ (List.length_set ..)) _ (List.length_set ..)) _ (List.length_set ..)) _ (List.length_set ..)) _ (List.length_set ..)) _ (List.length_set ..)) _ (List.length_set ..)) _ (List.length_set ..)) _ (List.length_set ..)) _ (List.length_set ..)) _ (List.length_set ..)) _ (List.length_set ..)) _ (List.length_set ..)) _ (List.length_set ..)) _ (List.length_set ..)) _ (List.length_set ..)) _ (List.length_set ..)) _ (List.length_set ..)) _ (List.length_set ..)) _ (List.length_set ..)) _ (List.length_set ..)) _ (List.length_set ..)) _ (List.length_set ..)) _ (List.length_set ..)) _ (List.length_set ..)) _ (List.length_set ..)) _ (List.length_set ..)) _ (List.length_set ..)) _ (List.length_set ..)) _ (List.length_set ..)) (c := 85) (n := 96) (by decide) rfl (by decide) (by decide)) (wa_85 _ _) ?_
                    refine rb_iinc (lv' := [some (.ref 68), some (.int 2), some (.int (-1)), some (.int (c)), some (.int 16)]) rfl rfl ?_
                    refine rb_goto ?_
                    refine rn_step rfl ?_
                    refine rb_iload rfl ?_
                    refine rb_push ?_
                    refine rb_cge (fun h => absurd h (by decide)) (fun _ => ?_)
                    refine rb_aload rfl ?_
                    refine rb_getf (v := .ref 85) rfl ?_
                    refine rb_push ?_
                    refine rb_iload rfl ?_
                    refine rb_binL (z := 48) (by decide) ?_
                    refine rb_iload rfl ?_
                    refine rb_binL (z := 64) (by decide) ?_
                    refine rb_push ?_
                    refine rb_iast rfl (by decide) (ok_lt (okL.sA (okL.sA (okL.sA (okL.sA (okL.sA (okL.sA (okL.sA (okL.sA (okL.sA (okL.sA (okL.sA (okL.sA (okL.sA (okL.sA (okL.sA (okL.sA (okL.sA (okL.sA (okL.sA (okL.sA (okL.sA (okL.sA (okL.sA (okL.sA (okL.sA (okL.sA (okL.sA (okL.sA (okL.sA (okL.sA (okL.sA (okL.sA (okL.sA (okL.sA (okL.sA (okL.sA (okL.sA (okL.sA (okL.sA (okL.sA (okL.sA (okL.sA (okL.sI (okL.sI s1_ok _ _ _) _ _ _) _ (List.length_set ..)) _ (List.length_set ..)) _ (List.length_set ..)) _ (List.length_set ..)) _ (List.length_set ..)) _ (List.length_set ..)) _ (List.length_set ..)) _ (List.length_set ..)) _ (List.length_set ..)) _ (List.length_set ..)) _ (List.length_set ..)) _ (List.length_set ..)) _ (List.length_set ..)) _ (List.length_set ..)) _ (List.length_set ..)) _ (List.length_set ..)) _ (List.length_set ..)) _ (List.length_set ..)) _ (List.length_set ..)) _ (List.length_set ..)) _ (List.length_set ..)) _ (List.length_set ..)) _ (List.length_set ..)) _ (List.length_set ..)) _ (List.length_set ..)) _ (List.length_set ..)) _ (List.length_set ..)) _ (List.length_set ..)) _ (List.length_set ..)) _ (List.length_set ..)) _ (List.length_set ..)) _ (List.length_set ..)) _ (List.length_set ..)) _ (List.length_set ..)) _ (List.length_set ..)) _ (List.length_set ..)) _ (List.length_set ..)) _ (List.length_set ..)) _ (List.length_set ..)) _ (List.length_set ..)) _ (List.length_set ..)) _ (List.length_set ..)) (c := 85) (n := 96) (by decide) rfl (by decide) (by decide)) (wa_85 _ _) ?_
                    refine rb_iinc (lv' := [some (.ref 68), some (.int 2), some (.int (-1)), some (.int (c)), some (.int 17)]) rfl rfl ?_
                    refine rb_goto ?_
                    refine rn_step rfl ?_
                    refine rb_iload rfl ?_
                    refine rb_push ?_
                    refine rb_cge (fun h => absurd h (by decide)) (fun _ => ?_)
                    refine rb_aload rfl ?_
                    refine rb_getf (v := .ref 85) rfl ?_
                    refine rb_push ?_
                    refine rb_iload rfl ?_
                    refine rb_binL (z := 48) (by decide) ?_
                    refine rb_iload rfl ?_
                    refine rb_binL (z := 65) (by decide) ?_
                    refine rb_push ?_
                    refine rb_iast rfl (by decide) (ok_lt (okL.sA (okL.sA (okL.sA (okL.sA (okL.sA (okL.sA (okL.sA (okL.sA (okL.sA (okL.sA (okL.sA (okL.sA (okL.sA (okL.sA (okL.sA (okL.sA (okL.sA (okL.sA (okL.sA (okL.sA (okL.sA (okL.sA (okL.sA (okL.sA (okL.sA (okL.sA (okL.sA (okL.sA (okL.sA (okL.sA (okL.sA (okL.sA (okL.sA (okL.sA (okL.sA (okL.sA (okL.sA (okL.sA (okL.sA (okL.sA (okL.sA (okL.sA (okL.sA (okL.sI (okL.sI s1_ok _ _ _) _ _ _) _ (List.length_set ..)) _ (List.length_set ..)) _ (List.length_set ..)) _ (List.length_set ..)) _ (List.length_set ..)) _ (List.length_set ..)) _ (List.length_set ..)) _ (List.length_set ..)) _ (List.length_set ..)) _ (List.length_set ..)) _ (List.length_set ..)) _ (List.length_set ..)) _ (List.length_set ..)) _ (List.length_set ..)) _ (List.length_set ..)) _ (List.length_set ..)) _ (List.length_set ..)) _ (List.length_set ..)) _ (List.length_set ..)) _ (List.length_set ..)) _ (List.length_set ..)) _ (List.length_set ..)) _ (List.length_set ..)) _ (List.length_set ..)) _ (List.length_set ..)) _ (List.length_set ..)) _ (List.length_set ..)) _ (List.length_set ..)) _ (List.length_set ..)) _ (List.length_set ..)) _ (List.length_set ..)) _ (List.length_set ..)) _ (List.length_set ..)) _ (List.length_set ..)) _ (List.length_set ..)) _ (List.length_set ..)) _ (List.length_set ..)) _ (List.length_set ..)) _ (List.length_set ..)) _ (List.length_set ..)) _ (List.length_set ..)) _ (List.length_set ..)) _ (List.length_set ..)) (c := 85) (n := 96) (by decide) rfl (by decide) (by decide)) (wa_85 _ _) ?_
                    refine rb_iinc (lv' := [some (.ref 68), some (.int 2), some (.int (-1)), some (.int (c)), some (.int 18)]) rfl rfl ?_
                    refine rb_goto ?_
                    refine rn_step rfl ?_
                    refine rb_iload rfl ?_
                    refine rb_push ?_
                    refine rb_cge (fun h => absurd h (by decide)) (fun _ => ?_)
                    refine rb_aload rfl ?_
                    refine rb_getf (v := .ref 85) rfl ?_
                    refine rb_push ?_
                    refine rb_iload rfl ?_
                    refine rb_binL (z := 48) (by decide) ?_
                    refine rb_iload rfl ?_
                    refine rb_binL (z := 66) (by decide) ?_
                    refine rb_push ?_
                    refine rb_iast rfl (by decide) (ok_lt (okL.sA (okL.sA (okL.sA (okL.sA (okL.sA (okL.sA (okL.sA (okL.sA (okL.sA (okL.sA (okL.sA (okL.sA (okL.sA (okL.sA (okL.sA (okL.sA (okL.sA (okL.sA (okL.sA (okL.sA (okL.sA (okL.sA (okL.sA (okL.sA (okL.sA (okL.sA (okL.sA (okL.sA (okL.sA (okL.sA (okL.sA (okL.sA (okL.sA (okL.sA (okL.sA (okL.sA (okL.sA (okL.sA (okL.sA (okL.sA (okL.sA (okL.sA (okL.sA (okL.sA (okL.sI (okL.sI s1_ok _ _ _) _ _ _) _ (List.length_set ..)) _ (List.length_set ..)) _ (List.length_set ..)) _ (List.length_set ..)) _ (List.length_set ..)) _ (List.length_set ..)) _ (List.length_set ..)) _ (List.length_set ..)) _ (List.length_set ..)) _ (List.length_set ..)) _ (List.length_set ..)) _ (List.length_set ..)) _ (List.length_set ..)) _ (List.length_set ..)) _ (List.length_set ..)) _ (List.length_set ..)) _ (List.length_set ..)) _ (List.length_set ..)) _ (List.length_set ..)) _ (List.length_set ..)) _ (List.length_set ..)) _ (List.length_set ..)) _ (List.length_set ..)) _ (List.length_set ..)) _ (List.length_set ..)) _ (List.length_set ..)) _ (List.length_set ..)) _ (List.length_set ..)) _ (List.length_set ..)) _ (List.length_set ..)) _ (List.length_set ..)) _ (List.length_set ..)) _ (List.length_set ..)) _ (List.length_set ..)) _ (List.length_set ..)) _ (List.length_set ..)) _ (List.length_set ..)) _ (List.length_set ..)) _ (List.length_set ..)) _ (List.length_set ..)) _ (List.length_set ..)) _ (List.length_set ..)) _ (List.length_set ..)) _ (List.length_set ..)) (c := 85) (n := 96) (by decide) rfl (by decide) (by decide)) (wa_85 _ _) ?_
                    refine rb_iinc (lv' := [some (.ref 68), some (.int 2), some (.int (-1)), some (.int (c)), some (.int 19)]) rfl rfl ?_
                    refine rb_goto ?_
                    refine rn_step rfl ?_
                    refine rb_iload rfl ?_
                    refine rb_push ?_
                    refine rb_cge (fun h => absurd h (by decide)) (fun _ => ?_)
                    refine rb_aload rfl ?_
                    refine rb_getf (v := .ref 85) rfl ?_
                    refine rb_push ?_
                    refine rb_iload rfl ?_
                    refine rb_binL (z := 48) (by decide) ?_
                    refine rb_iload rfl ?_
                    refine rb_binL (z := 67) (by decide) ?_
                    refine rb_push ?_
                    refine rb_iast rfl (by decide) (ok_lt (okL.sA (okL.sA (okL.sA (okL.sA (okL.sA (okL.sA (okL.sA (okL.sA (okL.sA (okL.sA (okL.sA (okL.sA (okL.sA (okL.sA (okL.sA (okL.sA (okL.sA (okL.sA (okL.sA (okL.sA (okL.sA (okL.sA (okL.sA (okL.sA (okL.sA (okL.sA (okL.sA (okL.sA (okL.sA (okL.sA (okL.sA (okL.sA (okL.sA (okL.sA (okL.sA (okL.sA (okL.sA (okL.sA (okL.sA (okL.sA (okL.sA (okL.sA (okL.sA (okL.sA (okL.sA (okL.sI (okL.sI s1_ok _ _ _) _ _ _) _ (List.length_set ..)) _ (List.length_set ..)) _ (List.length_set ..)) _ (List.length_set ..)) _ (List.length_set ..)) _ (List.length_set ..)) _ (List.length_set ..)) _ (List.length_set ..)) _ (List.length_set ..)) _ (List.length_set ..)) _ (List.length_set ..)) _ (List.length_set ..)) _ (List.length_set ..)) _ (List.length_set ..)) _ (List.length_set ..)) _ (List.length_set ..)) _ (List.length_set ..)) _ (List.length_set ..)) _ (List.length_set ..)) _ (List.length_set ..)) _ (List.length_set ..)) _ (List.length_set ..)) _ (List.length_set ..)) _ (List.length_set ..)) _ (List.length_set ..)) _ (List.length_set ..)) _ (List.length_set ..)) _ (List.length_set ..)) _ (List.length_set ..)) _ (List.length_set ..)) _ (List.length_set ..)) _ (List.length_set ..)) _ (List.length_set ..)) _ (List.length_set ..)) _ (List.length_set ..)) _ (List.length_set ..)) _ (List.length_set ..)) _ (List.length_set ..)) _ (List.length_set ..)) _ (List.length_set ..)) _ (List.length_set ..)) _ (List.length_set ..)) _ (List.length_set ..)) _ (List.length_set ..)) _ (List.length_set ..)) (c := 85) (n := 96) (by decide) rfl (by decide) (by decide)) (wa_85 _ _) ?_
                    refine rb_iinc (lv' := [some (.ref 68), some (.int 2), some (.int (-1)), some (.int (c)), some (.int 20)]) rfl rfl ?_
                    refine rb_goto ?_
                    refine rn_step rfl ?_
                    refine rb_iload rfl ?_
                    refine rb_push ?_
                    refine rb_cge (fun h => absurd h (by decide)) (fun _ => ?_)
                    refine rb_aload rfl ?_
                    refine rb_getf (v := .ref 85) rfl ?_
                    refine rb_push ?_
                    refine rb_iload rfl ?_
                    refine rb_binL (z := 48) (by decide) ?_
                    refine rb_iload rfl ?_
                    refine rb_binL (z := 68) (by decide) ?_
                    refine rb_push ?_
                    refine rb_iast rfl (by decide) (ok_lt (okL.sA (okL.sA (okL.sA (okL.sA (okL.sA (okL.sA (okL.sA (okL.sA (okL.sA (okL.sA (okL.sA (okL.sA (okL.sA (okL.sA (okL.sA (okL.sA (okL.sA (okL.sA (okL.sA (okL.sA (okL.sA (okL.sA (okL.sA (okL.sA (okL.sA (okL.sA (okL.sA (okL.sA (okL.sA (okL.sA (okL.sA (okL.sA (okL.sA (okL.sA (okL.sA (okL.sA (okL.sA (okL.sA (okL.sA (okL.sA (okL.sA (okL.sA (okL.sA (okL.sA (okL.sA (okL.sA (okL.sI (okL.sI s1_ok _ _ _) _ _ _) _ (List.length_set ..)) _ (List.length_set ..)) _ (List.length_set ..)) _ (List.length_set ..)) _ (List.length_set ..)) _ (List.length_set ..)) _ (List.length_set ..)) _ (List.length_set ..)) _ (List.length_set ..)) _ (List.length_set ..)) _ (List.length_set ..)) _ (List.length_set ..)) _ (List.length_set ..)) _ (List.length_set ..)) _ (List.length_set ..)) _ (List.length_set ..)) _ (List.length_set ..)) _ (List.length_set ..)) _ (List.length_set ..)) _ (List.length_set ..)) _ (List.length_set ..)) _ (List.length_set ..)) _ (List.length_set ..)) _ (List.length_set ..)) _ (List.length_set ..)) _ (List.length_set ..)) _ (List.length_set ..)) _ (List.length_set ..)) _ (List.length_set ..)) _ (List.length_set ..)) _ (List.length_set ..)) _ (List.length_set ..)) _ (List.length_set ..)) _ (List.length_set ..)) _ (List.length_set ..)) _ (List.length_set ..)) _ (List.length_set ..)) _ (List.length_set ..)) _ (List.length_set ..)) _ (List.length_set ..)) _ (List.length_set ..)) _ (List.length_set ..)) _ (List.length_set ..)) _ (List.length_set ..)) _ (List.length_set ..)) _ (List.length_set ..)) (c := 85) (n := 96) (by decide) rfl (by decide) (by decide)) (wa_85 _ _) ?_
                    refine rb_iinc (lv' := [some (.ref 68), some (.int 2), some (.int (-1)), some (.int (c)), some (.int 21)]) rfl rfl ?_
                    refine rb_goto ?_
                    refine rn_step rfl ?_
                    refine rb_iload rfl ?_
                    refine rb_push ?_
                    refine rb_cge (fun h => absurd h (by decide)) (fun _ => ?_)
                    refine rb_aload rfl ?_
                    refine rb_getf (v := .ref 85) rfl ?_
                    refine rb_push ?_
                    refine rb_iload rfl ?_
                    refine rb_binL (z := 48) (by decide) ?_
                    refine rb_iload rfl ?_
                    refine rb_binL (z := 69) (by decide) ?_
                    refine rb_push ?_
                    refine rb_iast rfl (by decide) (ok_lt (okL.sA (okL.sA (okL.sA (okL.sA (okL.sA (okL.sA (okL.sA (okL.sA (okL.sA (okL.sA (okL.sA (okL.sA (okL.sA (okL.sA (okL.sA (okL.sA (okL.sA (okL.sA (okL.sA (okL.sA (okL.sA (okL.sA (okL.sA (okL.sA (okL.sA (okL.sA (okL.sA (okL.sA (okL.sA (okL.sA (okL.sA (okL.sA (okL.sA (okL.sA (okL.sA (okL.sA (okL.sA (okL.sA (okL.sA (okL.sA (okL.sA (okL.sA (okL.sA (okL.sA (okL.sA (okL.sA (okL.sA (okL.sI (okL.sI s1_ok _ _ _) _ _ _) _ (List.length_set ..)) _ (List.length_set ..)) _ (List.length_set ..)) _ (List.length_set ..)) _ (List.length_set ..)) _ (List.length_set ..)) _ (List.length_set ..)) _ (List.length_set ..)) _ (List.length_set ..)) _ (List.length_set ..)) _ (List.length_set ..)) _ (List.length_set ..)) _ (List.length_set ..)) _ (List.length_set ..)) _ (List.length_set ..)) _ (List.length_set ..)) _ (List.length_set ..)) _ (List.length_set ..)) _ (List.length_set ..)) _ (List.length_set ..)) _ (List.length_set ..)) _ (List.length_set ..)) _ (List.length_set ..)) _ (List.length_set ..)) _ (List.length_set ..)) _ (List.length_set ..)) _ (List.length_set ..)) _ (List.length_set ..)) _ (List.length_set ..)) _ (List.length_set ..)) _ (List.length_set ..)) _ (List.length_set ..)) _ (List.length_set ..)) _ (List.length_set ..)) _ (List.length_set ..)) _ (List.length_set ..)) _ (List.length_set ..)) _ (List.length_set ..)) _ (List.length_set ..)) _ (List.length_set ..)) _ (List.length_set ..)) _ (List.length_set ..)) _ (List.length_set ..)) _ (List.length_set ..)) _ (List.length_set ..)) _ (List.length_set ..)) _ (List.length_set ..)) (c := 85) (n := 96) (by decide) rfl (by decide) (by decide)) (wa_85 _ _) ?_
                    refine rb_iinc (lv' := [some (.ref 68), some (.int 2), some (.int (-1)), some (.int (c)), some (.int 22)]) rfl rfl ?_
                    refine rb_goto ?_
                    refine rn_step rfl ?_
                    refine rb_iload rfl ?_
                    refine rb_push ?_
                    refine rb_cge (fun h => absurd h (by decide)) (fun _ => ?_)
                    refine rb_aload rfl ?_
                    refine rb_getf (v := .ref 85) rfl ?_
                    refine rb_push ?_
                    refine rb_iload rfl ?_
                    refine rb_binL (z := 48) (by decide) ?_
                    refine rb_iload rfl ?_
                    refine rb_binL (z := 70) (by decide) ?_
                    refine rb_push ?_
                    refine rb_iast rfl (by decide) (ok_lt (okL.sA (okL.sA (okL.sA (okL.sA (okL.sA (okL.sA (okL.sA (okL.sA (okL.sA (okL.sA (okL.sA (okL.sA (okL.sA (okL.sA (okL.sA (okL.sA (okL.sA (okL.sA (okL.sA (okL.sA (okL.sA (okL.sA (okL.sA (okL.sA (okL.sA (okL.sA (okL.sA (okL.sA (okL.sA (okL.sA (okL.sA (okL.sA (okL.sA (okL.sA (okL.sA (okL.sA (okL.sA (okL.sA (okL.sA (okL.sA (okL.sA (okL.sA (okL.sA (okL.sA (okL.sA (okL.sA (okL.sA (okL.sA (okL.sI (okL.sI s1_ok _ _ _) _ _ _) _ (List.length_set ..)) _ (List.length_set ..)) _ (List.length_set ..)) _ (List.length_set ..)) _ (List.length_set ..)) _ (List.length_set ..)) _ (List.length_set ..)) _ (List.length_set ..)) _ (List.length_set ..)) _ (List.length_set ..)) _ (List.length_set ..)) _ (List.length_set ..)) _ (List.length_set ..)) _ (List.length_set ..)) _ (List.length_set ..)) _ (List.length_set ..)) _ (List.length_set ..)) _ (List.length_set ..)) _ (List.length_set ..)) _ (List.length_set ..)) _ (List.length_set ..)) _ (List.length_set ..)) _ (List.length_set ..)) _ (List.length_set ..)) _ (List.length_set ..)) _ (List.length_set ..)) _ (List.length_set ..)) _ (List.length_set ..)) _ (List.length_set ..)) _ (List.length_set ..)) _ (List.length_set ..)) _ (List.length_set ..)) _ (List.length_set ..)) _ (List.length_set ..)) _ (List.length_set ..)) _ (List.length_set ..)) _ (List.length_set ..)) _ (List.length_set ..)) _ (List.length_set ..)) _ (List.length_set ..)) _ (List.length_set ..)) _ (List.length_set ..)) _ (List.length_set ..)) _ (List.length_set ..)) _ (List.length_set ..)) _ (List.length_set ..)) _ (List.length_set ..)) _ (List.length_set ..)) (c := 85) (n := 96) (by decide) rfl (by decide) (by decide)) (wa_85 _ _) ?_
                    refine rb_iinc (lv' := [some (.ref 68), some (.int 2), some (.int (-1)), some (.int (c)), some (.int 23)]) rfl rfl ?_
                    refine rb_goto ?_
                    refine rn_step rfl ?_
                    refine rb_iload rfl ?_
                    refine rb_push ?_
                    refine rb_cge (fun h => absurd h (by decide)) (fun _ => ?_)
                    refine rb_aload rfl ?_
                    refine rb_getf (v := .ref 85) rfl ?_
                    refine rb_push ?_
                    refine rb_iload rfl ?_
                    refine rb_binL (z := 48) (by decide) ?_
                    refine rb_iload rfl ?_
                    refine rb_binL (z := 71) (by decide) ?_
                    refine rb_push ?_
                    refine rb_iast rfl (by decide) (ok_lt (okL.sA (okL.sA (okL.sA (okL.sA (okL.sA (okL.sA (okL.sA (okL.sA (okL.sA (okL.sA (okL.sA (okL.sA (okL.sA (okL.sA (okL.sA (okL.sA (okL.sA (okL.sA (okL.sA (okL.sA (okL.sA (okL.sA (okL.sA (okL.sA (okL.sA (okL.sA (okL.sA (okL.sA (okL.sA (okL.sA (okL.sA (okL.sA (okL.sA (okL.sA (okL.sA (okL.sA (okL.sA (okL.sA (okL.sA (okL.sA (okL.sA (okL.sA (okL.sA (okL.sA (okL.sA (okL.sA (okL.sA (okL.sA (okL.sA (okL.sI (okL.sI s1_ok _ _ _) _ _ _) _ (List.length_set ..)) _ (List.length_set ..)) _ (List.length_set ..)) _ (List.length_set ..)) _ (List.length_set ..)) _ (List.length_set ..)) _ (List.length_set ..)) _ (List.length_set ..)) _ (List.length_set ..)) _ (List.length_set ..)) _ (List.length_set ..)) _ (List.length_set ..)) _ (List.length_set ..)) _ (List.length_set ..)) _ (List.length_set ..)) _ (List.length_set ..)) _ (List.length_set ..)) _ (List.length_set ..)) _ (List.length_set ..)) _ (List.length_set ..)) _ (List.length_set ..)) _ (List.length_set ..)) _ (List.length_set ..)) _ (List.length_set ..)) _ (List.length_set ..)) _ (List.length_set ..)) _ (List.length_set ..)) _ (List.length_set ..)) _ (List.length_set ..)) _ (List.length_set ..)) _ (List.length_set ..)) _ (List.length_set ..)) _ (List.length_set ..)) _ (List.length_set ..)) _ (List.length_set ..)) _ (List.length_set ..)) _ (List.length_set ..)) _ (List.length_set ..)) _ (List.length_set ..)) _ (List.length_set ..)) _ (List.length_set ..)) _ (List.length_set ..)) _ (List.length_set ..)) _ (List.length_set ..)) _ (List.length_set ..)) _ (List.length_set ..)) _ (List.length_set ..)) _ (List.length_set ..)) _ (List.length_set ..)) (c := 85) (n := 96) (by decide) rfl (by decide) (by decide)) (wa_85 _ _) ?_
                    refine rb_iinc (lv' := [some (.ref 68), some (.int 2), some (.int (-1)), some (.int (c)), some (.int 24)]) rfl rfl ?_
                    refine rb_goto ?_
                    refine rn_step rfl ?_
                    refine rb_iload rfl ?_
                    refine rb_push ?_
                    refine rb_cge (fun _ => ?_) (fun h => absurd (by decide) h)
                    refine rn_step rfl ?_
                    refine rb_aload rfl ?_
                    refine rb_getf (v := .ref 84) rfl ?_
                    refine rb_iload rfl ?_
                    refine rb_iald rfl (by decide) (show _ = some (0) from rfl) ?_
                    refine rb_ret rfl rfl
                  case h3 => exact (okL.sA (okL.sA (okL.sA (okL.sA (okL.sA (okL.sA (okL.sA (okL.sA (okL.sA (okL.sA (okL.sA (okL.sA (okL.sA (okL.sA (okL.sA (okL.sA (okL.sA (okL.sA (okL.sA (okL.sA (okL.sA (okL.sA (okL.sA (okL.sA (okL.sA (okL.sA (okL.sA (okL.sA (okL.sA (okL.sA (okL.sA (okL.sA (okL.sA (okL.sA (okL.sA (okL.sA (okL.sA (okL.sA (okL.sA (okL.sA (okL.sA (okL.sA (okL.sA (okL.sA (okL.sA (okL.sA (okL.sA (okL.sA (okL.sA (okL.sA (okL.sI (okL.sI s1_ok _ _ _) _ _ _) _ (List.length_set ..)) _ (List.length_set ..)) _ (List.length_set ..)) _ (List.length_set ..)) _ (List.length_set ..)) _ (List.length_set ..)) _ (List.length_set ..)) _ (List.length_set ..)) _ (List.length_set ..)) _ (List.length_set ..)) _ (List.length_set ..)) _ (List.length_set ..)) _ (List.length_set ..)) _ (List.length_set ..)) _ (List.length_set ..)) _ (List.length_set ..)) _ (List.length_set ..)) _ (List.length_set ..)) _ (List.length_set ..)) _ (List.length_set ..)) _ (List.length_set ..)) _ (List.length_set ..)) _ (List.length_set ..)) _ (List.length_set ..)) _ (List.length_set ..)) _ (List.length_set ..)) _ (List.length_set ..)) _ (List.length_set ..)) _ (List.length_set ..)) _ (List.length_set ..)) _ (List.length_set ..)) _ (List.length_set ..)) _ (List.length_set ..)) _ (List.length_set ..)) _ (List.length_set ..)) _ (List.length_set ..)) _ (List.length_set ..)) _ (List.length_set ..)) _ (List.length_set ..)) _ (List.length_set ..)) _ (List.length_set ..)) _ (List.length_set ..)) _ (List.length_set ..)) _ (List.length_set ..)) _ (List.length_set ..)) _ (List.length_set ..)) _ (List.length_set ..)) _ (List.length_set ..)) _ (List.length_set ..)) _ (List.length_set ..))
                  case h4 => exact rfl
                ·
                  obtain rfl : a = 3 := ia_one hla hha (by decide) (by decide)
                  apply p1_intro (v := 0)
                  case h1 =>
                    apply ex_X8_sheet
                    refine rn_step rfl ?_
                    refine rb_iload rfl ?_
                    apply rb_callS1
                    case hcl => exact rfl
                    case hc =>
                      apply ex_X8_isSheet
                      refine rn_step rfl ?_
                      refine rb_iload rfl ?_
                      refine rb_push ?_
                      refine rb_push ?_
                      apply rb_callS3
                      case hcl => exact rfl
                      case hc =>
                        apply ex_X8_within
                        refine rn_step rfl ?_
                        refine rb_iload rfl ?_
                        refine rb_iload rfl ?_
                        refine rb_clt (fun h => absurd h (by decide)) (fun _ => ?_)
                        refine rb_iload rfl ?_
                        refine rb_iload rfl ?_
                        refine rb_cgt (fun h => absurd h (by decide)) (fun _ => ?_)
                        refine rb_push ?_
                        refine rb_goto ?_
                        refine rn_step rfl ?_
                        refine rb_ret rfl rfl
                      refine rb_ret rfl rfl
                    refine rb_ieq (fun h => absurd h (by decide)) (fun _ => ?_)
                    refine rb_iload rfl ?_
                    refine rb_push ?_
                    refine rb_push ?_
                    apply rb_callS3
                    case hcl => exact rfl
                    case hc =>
                      apply ex_X8_within
                      refine rn_step rfl ?_
                      refine rb_iload rfl ?_
                      refine rb_iload rfl ?_
                      refine rb_clt (fun h => absurd h (by decide)) (fun _ => ?_)
                      refine rb_iload rfl ?_
                      refine rb_iload rfl ?_
                      refine rb_cgt (fun h => absurd h (by decide)) (fun _ => ?_)
                      refine rb_push ?_
                      refine rb_goto ?_
                      refine rn_step rfl ?_
                      refine rb_ret rfl rfl
                    refine rb_ine (fun _ => ?_) (fun h => absurd (by decide) h)
                    refine rn_step rfl ?_
                    refine rb_iload rfl ?_
                    refine rb_push ?_
                    refine rb_cne (fun h => absurd (by decide) h) (fun _ => ?_)
                    refine rb_aload rfl ?_
                    refine rb_getf (v := .ref 42) rfl ?_
                    refine rb_iload rfl ?_
                    refine rb_aaldR rfl (by decide) rfl ?_
                    refine rb_push ?_
                    refine rb_push ?_
                    apply rb_callV2v
                    case hb => exact rfl
                    case hcl => exact rfl
                    case hc =>
                      apply ex_X2_become
                      refine rn_step rfl ?_
                      refine rb_aload rfl ?_
                      refine rb_iload rfl ?_
                      refine rb_putI (pf_51_1 _ _) ?_
                      refine rb_aload rfl ?_
                      refine rb_iload rfl ?_
                      refine rb_putI (pf_51_2 _ _) ?_
                      refine rb_aload rfl ?_
                      refine rb_getf (v := .ref 52) rfl ?_
                      refine rb_push ?_
                      apply rb_callS2v
                      case hcl => exact rfl
                      case hc =>
                        apply ex_J7_fill_53178
                        refine rn_step rfl ?_
                        refine rb_push ?_
                        refine rb_istore (lv' := [some (.ref 52), some (.int 0), some (.int 0), none]) rfl ?_
                        refine rb_aload rfl ?_
                        refine rb_alenL (z := 24) rfl rfl ?_
                        refine rb_istore (lv' := [some (.ref 52), some (.int 0), some (.int 0), some (.int 24)]) rfl ?_
                        refine rb_goto ?_
                        refine rn_step rfl ?_
                        refine rb_iload rfl ?_
                        refine rb_iload rfl ?_
                        refine rb_cge (fun h => absurd h (by decide)) (fun _ => ?_)
                        refine rb_aload rfl ?_
                        refine rb_iload rfl ?_
                        refine rb_iload rfl ?_
                        refine rb_iast rfl (by decide) (ok_lt (okL.sI (okL.sI s1_ok _ _ _) _ _ _) (c := 52) (n := 24) (by decide) rfl (by decide) (by decide)) (wa_52 _ _) ?_
                        refine rb_iinc (lv' := [some (.ref 52), some (.int 0), some (.int 1), some (.int 24)]) rfl rfl ?_
                        refine rb_goto ?_
                        refine rn_step rfl ?_
                        refine rb_iload rfl ?_
                        refine rb_iload rfl ?_
                        refine rb_cge (fun h => absurd h (by decide)) (fun _ => ?_)
                        refine rb_aload rfl ?_
                        refine rb_iload rfl ?_
                        refine rb_iload rfl ?_
                        refine rb_iast rfl (by decide) (ok_lt (okL.sA (okL.sI (okL.sI s1_ok _ _ _) _ _ _) _ (List.length_set ..)) (c := 52) (n := 24) (by decide) rfl (by decide) (by decide)) (wa_52 _ _) ?_
                        refine rb_iinc (lv' := [some (.ref 52), some (.int 0), some (.int 2), some (.int 24)]) rfl rfl ?_
                        refine rb_goto ?_
                        refine rn_step rfl ?_
                        refine rb_iload rfl ?_
                        refine rb_iload rfl ?_
                        refine rb_cge (fun h => absurd h (by decide)) (fun _ => ?_)
                        refine rb_aload rfl ?_
                        refine rb_iload rfl ?_
                        refine rb_iload rfl ?_
                        refine rb_iast rfl (by decide) (ok_lt (okL.sA (okL.sA (okL.sI (okL.sI s1_ok _ _ _) _ _ _) _ (List.length_set ..)) _ (List.length_set ..)) (c := 52) (n := 24) (by decide) rfl (by decide) (by decide)) (wa_52 _ _) ?_
                        refine rb_iinc (lv' := [some (.ref 52), some (.int 0), some (.int 3), some (.int 24)]) rfl rfl ?_
                        refine rb_goto ?_
                        refine rn_step rfl ?_
                        refine rb_iload rfl ?_
                        refine rb_iload rfl ?_
                        refine rb_cge (fun h => absurd h (by decide)) (fun _ => ?_)
                        refine rb_aload rfl ?_
                        refine rb_iload rfl ?_
                        refine rb_iload rfl ?_
                        refine rb_iast rfl (by decide) (ok_lt (okL.sA (okL.sA (okL.sA (okL.sI (okL.sI s1_ok _ _ _) _ _ _) _ (List.length_set ..)) _ (List.length_set ..)) _ (List.length_set ..)) (c := 52) (n := 24) (by decide) rfl (by decide) (by decide)) (wa_52 _ _) ?_
                        refine rb_iinc (lv' := [some (.ref 52), some (.int 0), some (.int 4), some (.int 24)]) rfl rfl ?_
                        refine rb_goto ?_
                        refine rn_step rfl ?_
                        refine rb_iload rfl ?_
                        refine rb_iload rfl ?_
                        refine rb_cge (fun h => absurd h (by decide)) (fun _ => ?_)
                        refine rb_aload rfl ?_
                        refine rb_iload rfl ?_
                        refine rb_iload rfl ?_
                        refine rb_iast rfl (by decide) (ok_lt (okL.sA (okL.sA (okL.sA (okL.sA (okL.sI (okL.sI s1_ok _ _ _) _ _ _) _ (List.length_set ..)) _ (List.length_set ..)) _ (List.length_set ..)) _ (List.length_set ..)) (c := 52) (n := 24) (by decide) rfl (by decide) (by decide)) (wa_52 _ _) ?_
                        refine rb_iinc (lv' := [some (.ref 52), some (.int 0), some (.int 5), some (.int 24)]) rfl rfl ?_
                        refine rb_goto ?_
                        refine rn_step rfl ?_
                        refine rb_iload rfl ?_
                        refine rb_iload rfl ?_
                        refine rb_cge (fun h => absurd h (by decide)) (fun _ => ?_)
                        refine rb_aload rfl ?_
                        refine rb_iload rfl ?_
                        refine rb_iload rfl ?_
                        refine rb_iast rfl (by decide) (ok_lt (okL.sA (okL.sA (okL.sA (okL.sA (okL.sA (okL.sI (okL.sI s1_ok _ _ _) _ _ _) _ (List.length_set ..)) _ (List.length_set ..)) _ (List.length_set ..)) _ (List.length_set ..)) _ (List.length_set ..)) (c := 52) (n := 24) (by decide) rfl (by decide) (by decide)) (wa_52 _ _) ?_
                        refine rb_iinc (lv' := [some (.ref 52), some (.int 0), some (.int 6), some (.int 24)]) rfl rfl ?_
                        refine rb_goto ?_
                        refine rn_step rfl ?_
                        refine rb_iload rfl ?_
                        refine rb_iload rfl ?_
                        refine rb_cge (fun h => absurd h (by decide)) (fun _ => ?_)
                        refine rb_aload rfl ?_
                        refine rb_iload rfl ?_
                        refine rb_iload rfl ?_
                        refine rb_iast rfl (by decide) (ok_lt (okL.sA (okL.sA (okL.sA (okL.sA (okL.sA (okL.sA (okL.sI (okL.sI s1_ok _ _ _) _ _ _) _ (List.length_set ..)) _ (List.length_set ..)) _ (List.length_set ..)) _ (List.length_set ..)) _ (List.length_set ..)) _ (List.length_set ..)) (c := 52) (n := 24) (by decide) rfl (by decide) (by decide)) (wa_52 _ _) ?_
                        refine rb_iinc (lv' := [some (.ref 52), some (.int 0), some (.int 7), some (.int 24)]) rfl rfl ?_
                        refine rb_goto ?_
                        refine rn_step rfl ?_
                        refine rb_iload rfl ?_
                        refine rb_iload rfl ?_
                        refine rb_cge (fun h => absurd h (by decide)) (fun _ => ?_)
                        refine rb_aload rfl ?_
                        refine rb_iload rfl ?_
                        refine rb_iload rfl ?_
                        refine rb_iast rfl (by decide) (ok_lt (okL.sA (okL.sA (okL.sA (okL.sA (okL.sA (okL.sA (okL.sA (okL.sI (okL.sI s1_ok _ _ _) _ _ _) _ (List.length_set ..)) _ (List.length_set ..)) _ (List.length_set ..)) _ (List.length_set ..)) _ (List.length_set ..)) _ (List.length_set ..)) _ (List.length_set ..)) (c := 52) (n := 24) (by decide) rfl (by decide) (by decide)) (wa_52 _ _) ?_
                        refine rb_iinc (lv' := [some (.ref 52), some (.int 0), some (.int 8), some (.int 24)]) rfl rfl ?_
                        refine rb_goto ?_
                        refine rn_step rfl ?_
                        refine rb_iload rfl ?_
                        refine rb_iload rfl ?_
                        refine rb_cge (fun h => absurd h (by decide)) (fun _ => ?_)
                        refine rb_aload rfl ?_
                        refine rb_iload rfl ?_
                        refine rb_iload rfl ?_
                        refine rb_iast rfl (by decide) (ok_lt (okL.sA (okL.sA (okL.sA (okL.sA (okL.sA (okL.sA (okL.sA (okL.sA (okL.sI (okL.sI s1_ok _ _ _) _ _ _) _ (List.length_set ..)) _ (List.length_set ..)) _ (List.length_set ..)) _ (List.length_set ..)) _ (List.length_set ..)) _ (List.length_set ..)) _ (List.length_set ..)) _ (List.length_set ..)) (c := 52) (n := 24) (by decide) rfl (by decide) (by decide)) (wa_52 _ _) ?_
                        refine rb_iinc (lv' := [some (.ref 52), some (.int 0), some (.int 9), some (.int 24)]) rfl rfl ?_
                        refine rb_goto ?_
                        refine rn_step rfl ?_
                        refine rb_iload rfl ?_
                        refine rb_iload rfl ?_
                        refine rb_cge (fun h => absurd h (by decide)) (fun _ => ?_)
                        refine rb_aload rfl ?_
                        refine rb_iload rfl ?_
                        refine rb_iload rfl ?_
                        refine rb_iast rfl (by decide) (ok_lt (okL.sA (okL.sA (okL.sA (okL.sA (okL.sA (okL.sA (okL.sA (okL.sA (okL.sA (okL.sI (okL.sI s1_ok _ _ _) _ _ _) _ (List.length_set ..)) _ (List.length_set ..)) _ (List.length_set ..)) _ (List.length_set ..)) _ (List.length_set ..)) _ (List.length_set ..)) _ (List.length_set ..)) _ (List.length_set ..)) _ (List.length_set ..)) (c := 52) (n := 24) (by decide) rfl (by decide) (by decide)) (wa_52 _ _) ?_
                        refine rb_iinc (lv' := [some (.ref 52), some (.int 0), some (.int 10), some (.int 24)]) rfl rfl ?_
                        refine rb_goto ?_
                        refine rn_step rfl ?_
                        refine rb_iload rfl ?_
                        refine rb_iload rfl ?_
                        refine rb_cge (fun h => absurd h (by decide)) (fun _ => ?_)
                        refine rb_aload rfl ?_
                        refine rb_iload rfl ?_
                        refine rb_iload rfl ?_
                        refine rb_iast rfl (by decide) (ok_lt (okL.sA (okL.sA (okL.sA (okL.sA (okL.sA (okL.sA (okL.sA (okL.sA (okL.sA (okL.sA (okL.sI (okL.sI s1_ok _ _ _) _ _ _) _ (List.length_set ..)) _ (List.length_set ..)) _ (List.length_set ..)) _ (List.length_set ..)) _ (List.length_set ..)) _ (List.length_set ..)) _ (List.length_set ..)) _ (List.length_set ..)) _ (List.length_set ..)) _ (List.length_set ..)) (c := 52) (n := 24) (by decide) rfl (by decide) (by decide)) (wa_52 _ _) ?_
                        refine rb_iinc (lv' := [some (.ref 52), some (.int 0), some (.int 11), some (.int 24)]) rfl rfl ?_
                        refine rb_goto ?_
                        refine rn_step rfl ?_
                        refine rb_iload rfl ?_
                        refine rb_iload rfl ?_
                        refine rb_cge (fun h => absurd h (by decide)) (fun _ => ?_)
                        refine rb_aload rfl ?_
                        refine rb_iload rfl ?_
                        refine rb_iload rfl ?_
                        refine rb_iast rfl (by decide) (ok_lt (okL.sA (okL.sA (okL.sA (okL.sA (okL.sA (okL.sA (okL.sA (okL.sA (okL.sA (okL.sA (okL.sA (okL.sI (okL.sI s1_ok _ _ _) _ _ _) _ (List.length_set ..)) _ (List.length_set ..)) _ (List.length_set ..)) _ (List.length_set ..)) _ (List.length_set ..)) _ (List.length_set ..)) _ (List.length_set ..)) _ (List.length_set ..)) _ (List.length_set ..)) _ (List.length_set ..)) _ (List.length_set ..)) (c := 52) (n := 24) (by decide) rfl (by decide) (by decide)) (wa_52 _ _) ?_
                        refine rb_iinc (lv' := [some (.ref 52), some (.int 0), some (.int 12), some (.int 24)]) rfl rfl ?_
                        refine rb_goto ?_
                        refine rn_step rfl ?_
                        refine rb_iload rfl ?_
                        refine rb_iload rfl ?_
                        refine rb_cge (fun h => absurd h (by decide)) (fun _ => ?_)
                        refine rb_aload rfl ?_
                        refine rb_iload rfl ?_
                        refine rb_iload rfl ?_
                        refine rb_iast rfl (by decide) (ok_lt (okL.sA (okL.sA (okL.sA (okL.sA (okL.sA (okL.sA (okL.sA (okL.sA (okL.sA (okL.sA (okL.sA (okL.sA (okL.sI (okL.sI s1_ok _ _ _) _ _ _) _ (List.length_set ..)) _ (List.length_set ..)) _ (List.length_set ..)) _ (List.length_set ..)) _ (List.length_set ..)) _ (List.length_set ..)) _ (List.length_set ..)) _ (List.length_set ..)) _ (List.length_set ..)) _ (List.length_set ..)) _ (List.length_set ..)) _ (List.length_set ..)) (c := 52) (n := 24) (by decide) rfl (by decide) (by decide)) (wa_52 _ _) ?_
                        refine rb_iinc (lv' := [some (.ref 52), some (.int 0), some (.int 13), some (.int 24)]) rfl rfl ?_
                        refine rb_goto ?_
                        refine rn_step rfl ?_
                        refine rb_iload rfl ?_
                        refine rb_iload rfl ?_
                        refine rb_cge (fun h => absurd h (by decide)) (fun _ => ?_)
                        refine rb_aload rfl ?_
                        refine rb_iload rfl ?_
                        refine rb_iload rfl ?_
                        refine rb_iast rfl (by decide) (ok_lt (okL.sA (okL.sA (okL.sA (okL.sA (okL.sA (okL.sA (okL.sA (okL.sA (okL.sA (okL.sA (okL.sA (okL.sA (okL.sA (okL.sI (okL.sI s1_ok _ _ _) _ _ _) _ (List.length_set ..)) _ (List.length_set ..)) _ (List.length_set ..)) _ (List.length_set ..)) _ (List.length_set ..)) _ (List.length_set ..)) _ (List.length_set ..)) _ (List.length_set ..)) _ (List.length_set ..)) _ (List.length_set ..)) _ (List.length_set ..)) _ (List.length_set ..)) _ (List.length_set ..)) (c := 52) (n := 24) (by decide) rfl (by decide) (by decide)) (wa_52 _ _) ?_
                        refine rb_iinc (lv' := [some (.ref 52), some (.int 0), some (.int 14), some (.int 24)]) rfl rfl ?_
                        refine rb_goto ?_
                        refine rn_step rfl ?_
                        refine rb_iload rfl ?_
                        refine rb_iload rfl ?_
                        refine rb_cge (fun h => absurd h (by decide)) (fun _ => ?_)
                        refine rb_aload rfl ?_
                        refine rb_iload rfl ?_
                        refine rb_iload rfl ?_
                        refine rb_iast rfl (by decide) (ok_lt (okL.sA (okL.sA (okL.sA (okL.sA (okL.sA (okL.sA (okL.sA (okL.sA (okL.sA (okL.sA (okL.sA (okL.sA (okL.sA (okL.sA (okL.sI (okL.sI s1_ok _ _ _) _ _ _) _ (List.length_set ..)) _ (List.length_set ..)) _ (List.length_set ..)) _ (List.length_set ..)) _ (List.length_set ..)) _ (List.length_set ..)) _ (List.length_set ..)) _ (List.length_set ..)) _ (List.length_set ..)) _ (List.length_set ..)) _ (List.length_set ..)) _ (List.length_set ..)) _ (List.length_set ..)) _ (List.length_set ..)) (c := 52) (n := 24) (by decide) rfl (by decide) (by decide)) (wa_52 _ _) ?_
                        refine rb_iinc (lv' := [some (.ref 52), some (.int 0), some (.int 15), some (.int 24)]) rfl rfl ?_
                        refine rb_goto ?_
                        refine rn_step rfl ?_
                        refine rb_iload rfl ?_
                        refine rb_iload rfl ?_
                        refine rb_cge (fun h => absurd h (by decide)) (fun _ => ?_)
                        refine rb_aload rfl ?_
                        refine rb_iload rfl ?_
                        refine rb_iload rfl ?_
                        refine rb_iast rfl (by decide) (ok_lt (okL.sA (okL.sA (okL.sA (okL.sA (okL.sA (okL.sA (okL.sA (okL.sA (okL.sA (okL.sA (okL.sA (okL.sA (okL.sA (okL.sA (okL.sA (okL.sI (okL.sI s1_ok _ _ _) _ _ _) _ (List.length_set ..)) _ (List.length_set ..)) _ (List.length_set ..)) _ (List.length_set ..)) _ (List.length_set ..)) _ (List.length_set ..)) _ (List.length_set ..)) _ (List.length_set ..)) _ (List.length_set ..)) _ (List.length_set ..)) _ (List.length_set ..)) _ (List.length_set ..)) _ (List.length_set ..)) _ (List.length_set ..)) _ (List.length_set ..)) (c := 52) (n := 24) (by decide) rfl (by decide) (by decide)) (wa_52 _ _) ?_
                        refine rb_iinc (lv' := [some (.ref 52), some (.int 0), some (.int 16), some (.int 24)]) rfl rfl ?_
                        refine rb_goto ?_
                        refine rn_step rfl ?_
                        refine rb_iload rfl ?_
                        refine rb_iload rfl ?_
                        refine rb_cge (fun h => absurd h (by decide)) (fun _ => ?_)
                        refine rb_aload rfl ?_
                        refine rb_iload rfl ?_
                        refine rb_iload rfl ?_
                        refine rb_iast rfl (by decide) (ok_lt (okL.sA (okL.sA (okL.sA (okL.sA (okL.sA (okL.sA (okL.sA (okL.sA (okL.sA (okL.sA (okL.sA (okL.sA (okL.sA (okL.sA (okL.sA (okL.sA (okL.sI (okL.sI s1_ok _ _ _) _ _ _) _ (List.length_set ..)) _ (List.length_set ..)) _ (List.length_set ..)) _ (List.length_set ..)) _ (List.length_set ..)) _ (List.length_set ..)) _ (List.length_set ..)) _ (List.length_set ..)) _ (List.length_set ..)) _ (List.length_set ..)) _ (List.length_set ..)) _ (List.length_set ..)) _ (List.length_set ..)) _ (List.length_set ..)) _ (List.length_set ..)) _ (List.length_set ..)) (c := 52) (n := 24) (by decide) rfl (by decide) (by decide)) (wa_52 _ _) ?_
                        refine rb_iinc (lv' := [some (.ref 52), some (.int 0), some (.int 17), some (.int 24)]) rfl rfl ?_
                        refine rb_goto ?_
                        refine rn_step rfl ?_
                        refine rb_iload rfl ?_
                        refine rb_iload rfl ?_
                        refine rb_cge (fun h => absurd h (by decide)) (fun _ => ?_)
                        refine rb_aload rfl ?_
                        refine rb_iload rfl ?_
                        refine rb_iload rfl ?_
                        refine rb_iast rfl (by decide) (ok_lt (okL.sA (okL.sA (okL.sA (okL.sA (okL.sA (okL.sA (okL.sA (okL.sA (okL.sA (okL.sA (okL.sA (okL.sA (okL.sA (okL.sA (okL.sA (okL.sA (okL.sA (okL.sI (okL.sI s1_ok _ _ _) _ _ _) _ (List.length_set ..)) _ (List.length_set ..)) _ (List.length_set ..)) _ (List.length_set ..)) _ (List.length_set ..)) _ (List.length_set ..)) _ (List.length_set ..)) _ (List.length_set ..)) _ (List.length_set ..)) _ (List.length_set ..)) _ (List.length_set ..)) _ (List.length_set ..)) _ (List.length_set ..)) _ (List.length_set ..)) _ (List.length_set ..)) _ (List.length_set ..)) _ (List.length_set ..)) (c := 52) (n := 24) (by decide) rfl (by decide) (by decide)) (wa_52 _ _) ?_
                        refine rb_iinc (lv' := [some (.ref 52), some (.int 0), some (.int 18), some (.int 24)]) rfl rfl ?_
                        refine rb_goto ?_
                        refine rn_step rfl ?_
                        refine rb_iload rfl ?_
                        refine rb_iload rfl ?_
                        refine rb_cge (fun h => absurd h (by decide)) (fun _ => ?_)
                        refine rb_aload rfl ?_
                        refine rb_iload rfl ?_
                        refine rb_iload rfl ?_
                        refine rb_iast rfl (by decide) (ok_lt (okL.sA (okL.sA (okL.sA (okL.sA (okL.sA (okL.sA (okL.sA (okL.sA (okL.sA (okL.sA (okL.sA (okL.sA (okL.sA (okL.sA (okL.sA (okL.sA (okL.sA (okL.sA (okL.sI (okL.sI s1_ok _ _ _) _ _ _) _ (List.length_set ..)) _ (List.length_set ..)) _ (List.length_set ..)) _ (List.length_set ..)) _ (List.length_set ..)) _ (List.length_set ..)) _ (List.length_set ..)) _ (List.length_set ..)) _ (List.length_set ..)) _ (List.length_set ..)) _ (List.length_set ..)) _ (List.length_set ..)) _ (List.length_set ..)) _ (List.length_set ..)) _ (List.length_set ..)) _ (List.length_set ..)) _ (List.length_set ..)) _ (List.length_set ..)) (c := 52) (n := 24) (by decide) rfl (by decide) (by decide)) (wa_52 _ _) ?_
                        refine rb_iinc (lv' := [some (.ref 52), some (.int 0), some (.int 19), some (.int 24)]) rfl rfl ?_
                        refine rb_goto ?_
                        refine rn_step rfl ?_
                        refine rb_iload rfl ?_
                        refine rb_iload rfl ?_
                        refine rb_cge (fun h => absurd h (by decide)) (fun _ => ?_)
                        refine rb_aload rfl ?_
                        refine rb_iload rfl ?_
                        refine rb_iload rfl ?_
                        refine rb_iast rfl (by decide) (ok_lt (okL.sA (okL.sA (okL.sA (okL.sA (okL.sA (okL.sA (okL.sA (okL.sA (okL.sA (okL.sA (okL.sA (okL.sA (okL.sA (okL.sA (okL.sA (okL.sA (okL.sA (okL.sA (okL.sA (okL.sI (okL.sI s1_ok _ _ _) _ _ _) _ (List.length_set ..)) _ (List.length_set ..)) _ (List.length_set ..)) _ (List.length_set ..)) _ (List.length_set ..)) _ (List.length_set ..)) _ (List.length_set ..)) _ (List.length_set ..)) _ (List.length_set ..)) _ (List.length_set ..)) _ (List.length_set ..)) _ (List.length_set ..)) _ (List.length_set ..)) _ (List.length_set ..)) _ (List.length_set ..)) _ (List.length_set ..)) _ (List.length_set ..)) _ (List.length_set ..)) _ (List.length_set ..)) (c := 52) (n := 24) (by decide) rfl (by decide) (by decide)) (wa_52 _ _) ?_
                        refine rb_iinc (lv' := [some (.ref 52), some (.int 0), some (.int 20), some (.int 24)]) rfl rfl ?_
                        refine rb_goto ?_
                        refine rn_step rfl ?_
                        refine rb_iload rfl ?_
                        refine rb_iload rfl ?_
                        refine rb_cge (fun h => absurd h (by decide)) (fun _ => ?_)
                        refine rb_aload rfl ?_
                        refine rb_iload rfl ?_
                        refine rb_iload rfl ?_
                        refine rb_iast rfl (by decide) (ok_lt (okL.sA (okL.sA (okL.sA (okL.sA (okL.sA (okL.sA (okL.sA (okL.sA (okL.sA (okL.sA (okL.sA (okL.sA (okL.sA (okL.sA (okL.sA (okL.sA (okL.sA (okL.sA (okL.sA (okL.sA (okL.sI (okL.sI s1_ok _ _ _) _ _ _) _ (List.length_set ..)) _ (List.length_set ..)) _ (List.length_set ..)) _ (List.length_set ..)) _ (List.length_set ..)) _ (List.length_set ..)) _ (List.length_set ..)) _ (List.length_set ..)) _ (List.length_set ..)) _ (List.length_set ..)) _ (List.length_set ..)) _ (List.length_set ..)) _ (List.length_set ..)) _ (List.length_set ..)) _ (List.length_set ..)) _ (List.length_set ..)) _ (List.length_set ..)) _ (List.length_set ..)) _ (List.length_set ..)) _ (List.length_set ..)) (c := 52) (n := 24) (by decide) rfl (by decide) (by decide)) (wa_52 _ _) ?_
                        refine rb_iinc (lv' := [some (.ref 52), some (.int 0), some (.int 21), some (.int 24)]) rfl rfl ?_
                        refine rb_goto ?_
                        refine rn_step rfl ?_
                        refine rb_iload rfl ?_
                        refine rb_iload rfl ?_
                        refine rb_cge (fun h => absurd h (by decide)) (fun _ => ?_)
                        refine rb_aload rfl ?_
                        refine rb_iload rfl ?_
                        refine rb_iload rfl ?_
                        refine rb_iast rfl (by decide) (ok_lt (okL.sA (okL.sA (okL.sA (okL.sA (okL.sA (okL.sA (okL.sA (okL.sA (okL.sA (okL.sA (okL.sA (okL.sA (okL.sA (okL.sA (okL.sA (okL.sA (okL.sA (okL.sA (okL.sA (okL.sA (okL.sA (okL.sI (okL.sI s1_ok _ _ _) _ _ _) _ (List.length_set ..)) _ (List.length_set ..)) _ (List.length_set ..)) _ (List.length_set ..)) _ (List.length_set ..)) _ (List.length_set ..)) _ (List.length_set ..)) _ (List.length_set ..)) _ (List.length_set ..)) _ (List.length_set ..)) _ (List.length_set ..)) _ (List.length_set ..)) _ (List.length_set ..)) _ (List.length_set ..)) _ (List.length_set ..)) _ (List.length_set ..)) _ (List.length_set ..)) _ (List.length_set ..)) _ (List.length_set ..)) _ (List.length_set ..)) _ (List.length_set ..)) (c := 52) (n := 24) (by decide) rfl (by decide) (by decide)) (wa_52 _ _) ?_
                        refine rb_iinc (lv' := [some (.ref 52), some (.int 0), some (.int 22), some (.int 24)]) rfl rfl ?_
                        refine rb_goto ?_
                        refine rn_step rfl ?_
                        refine rb_iload rfl ?_
                        refine rb_iload rfl ?_
                        refine rb_cge (fun h => absurd h (by decide)) (fun _ => ?_)
                        refine rb_aload rfl ?_
                        refine rb_iload rfl ?_
                        refine rb_iload rfl ?_
                        refine rb_iast rfl (by decide) (ok_lt (okL.sA (okL.sA (okL.sA (okL.sA (okL.sA (okL.sA (okL.sA (okL.sA (okL.sA (okL.sA (okL.sA (okL.sA (okL.sA (okL.sA (okL.sA (okL.sA (okL.sA (okL.sA (okL.sA (okL.sA (okL.sA (okL.sA (okL.sI (okL.sI s1_ok _ _ _) _ _ _) _ (List.length_set ..)) _ (List.length_set ..)) _ (List.length_set ..)) _ (List.length_set ..)) _ (List.length_set ..)) _ (List.length_set ..)) _ (List.length_set ..)) _ (List.length_set ..)) _ (List.length_set ..)) _ (List.length_set ..)) _ (List.length_set ..)) _ (List.length_set ..)) _ (List.length_set ..)) _ (List.length_set ..)) _ (List.length_set ..)) _ (List.length_set ..)) _ (List.length_set ..)) _ (List.length_set ..)) _ (List.length_set ..)) _ (List.length_set ..)) _ (List.length_set ..)) _ (List.length_set ..)) (c := 52) (n := 24) (by decide) rfl (by decide) (by decide)) (wa_52 _ _) ?_
                        refine rb_iinc (lv' := [some (.ref 52), some (.int 0), some (.int 23), some (.int 24)]) rfl rfl ?_
                        refine rb_goto ?_
                        refine rn_step rfl ?_
                        refine rb_iload rfl ?_
                        refine rb_iload rfl ?_
                        refine rb_cge (fun h => absurd h (by decide)) (fun _ => ?_)
                        refine rb_aload rfl ?_
                        refine rb_iload rfl ?_
                        refine rb_iload rfl ?_
                        refine rb_iast rfl (by decide) (ok_lt (okL.sA (okL.sA (okL.sA (okL.sA (okL.sA (okL.sA (okL.sA (okL.sA (okL.sA (okL.sA (okL.sA (okL.sA (okL.sA (okL.sA (okL.sA (okL.sA (okL.sA (okL.sA (okL.sA (okL.sA (okL.sA (okL.sA (okL.sA (okL.sI (okL.sI s1_ok _ _ _) _ _ _) _ (List.length_set ..)) _ (List.length_set ..)) _ (List.length_set ..)) _ (List.length_set ..)) _ (List.length_set ..)) _ (List.length_set ..)) _ (List.length_set ..)) _ (List.length_set ..)) _ (List.length_set ..)) _ (List.length_set ..)) _ (List.length_set ..)) _ (List.length_set ..)) _ (List.length_set ..)) _ (List.length_set ..)) _ (List.length_set ..)) _ (List.length_set ..)) _ (List.length_set ..)) _ (List.length_set ..)) _ (List.length_set ..)) _ (List.length_set ..)) _ (List.length_set ..)) _ (List.length_set ..)) _ (List.length_set ..)) (c := 52) (n := 24) (by decide) rfl (by decide) (by decide)) (wa_52 _ _) ?_
                        refine rb_iinc (lv' := [some (.ref 52), some (.int 0), some (.int 24), some (.int 24)]) rfl rfl ?_
                        refine rb_goto ?_
                        refine rn_step rfl ?_
                        refine rb_iload rfl ?_
                        refine rb_iload rfl ?_
                        refine rb_cge (fun _ => ?_) (fun h => absurd (by decide) h)
                        refine rn_step rfl ?_
                        refine rb_retv rfl
                      refine rb_retv rfl
                    refine rb_push ?_
                    refine rb_ret rfl rfl
                  case h2 =>
                    apply ex_X9_sheet
                    refine rn_step rfl ?_
                    refine rb_iload rfl ?_
                    apply rb_callS1
                    case hcl => exact rfl
                    case hc =>
                      apply ex_X9_isSheet
                      refine rn_step rfl ?_
                      refine rb_iload rfl ?_
                      refine rb_push ?_
                      refine rb_push ?_
                      apply rb_callS3
                      case hcl => exact rfl
                      case hc =>
                        apply ex_X9_in
                        refine rn_step rfl ?_
                        refine rb_iload rfl ?_
                        refine rb_iload rfl ?_
                        refine rb_clt (fun h => absurd h (by decide)) (fun _ => ?_)
                        refine rb_iload rfl ?_
                        refine rb_iload rfl ?_
                        refine rb_cgt (fun h => absurd h (by decide)) (fun _ => ?_)
                        refine rb_push ?_
                        refine rb_goto ?_
                        refine rn_step rfl ?_
                        refine rb_ret rfl rfl
                      refine rb_ret rfl rfl
                    refine rb_ieq (fun h => absurd h (by decide)) (fun _ => ?_)
                    refine rb_iload rfl ?_
                    refine rb_push ?_
                    refine rb_push ?_
                    apply rb_callS3
                    case hcl => exact rfl
                    case hc =>
                      apply ex_X9_in
                      refine rn_step rfl ?_
                      refine rb_iload rfl ?_
                      refine rb_iload rfl ?_
                      refine rb_clt (fun h => absurd h (by decide)) (fun _ => ?_)
                      refine rb_iload rfl ?_
                      refine rb_iload rfl ?_
                      refine rb_cgt (fun h => absurd h (by decide)) (fun _ => ?_)
                      refine rb_push ?_
                      refine rb_goto ?_
                      refine rn_step rfl ?_
                      refine rb_ret rfl rfl
                    refine rb_ieq (fun h => absurd h (by decide)) (fun _ => ?_)
                    refine rb_iload rfl ?_
                    refine rb_ilt (fun _ => ?_) (fun h => absurd (by decide) h)
                    refine rn_step rfl ?_
                    refine rb_iload rfl ?_
                    refine rb_ilt (fun _ => ?_) (fun h => absurd (by decide) h)
                    refine rn_step rfl ?_
                    refine rb_aload rfl ?_
                    refine rb_getf (v := .ref 83) rfl ?_
                    refine rb_iload rfl ?_
                    refine rb_iload rfl ?_
                    refine rb_iast rfl (by decide) (ok_lt (okL.sA (okL.sA (okL.sA (okL.sA (okL.sA (okL.sA (okL.sA (okL.sA (okL.sA (okL.sA (okL.sA (okL.sA (okL.sA (okL.sA (okL.sA (okL.sA (okL.sA (okL.sA (okL.sA (okL.sA (okL.sA (okL.sA (okL.sA (okL.sA (okL.sI (okL.sI s1_ok _ _ _) _ _ _) _ (List.length_set ..)) _ (List.length_set ..)) _ (List.length_set ..)) _ (List.length_set ..)) _ (List.length_set ..)) _ (List.length_set ..)) _ (List.length_set ..)) _ (List.length_set ..)) _ (List.length_set ..)) _ (List.length_set ..)) _ (List.length_set ..)) _ (List.length_set ..)) _ (List.length_set ..)) _ (List.length_set ..)) _ (List.length_set ..)) _ (List.length_set ..)) _ (List.length_set ..)) _ (List.length_set ..)) _ (List.length_set ..)) _ (List.length_set ..)) _ (List.length_set ..)) _ (List.length_set ..)) _ (List.length_set ..)) _ (List.length_set ..)) (c := 83) (n := 4) (by decide) rfl (by decide) (by decide)) (wa_83 _ _) ?_
                    refine rb_aload rfl ?_
                    refine rb_getf (v := .ref 84) rfl ?_
                    refine rb_iload rfl ?_
                    refine rb_iload rfl ?_
                    refine rb_ige (fun h => absurd h (by decide)) (fun _ => ?_)
                    refine rb_push ?_
                    refine rb_goto ?_
                    refine rn_step rfl ?_
                    refine rb_iast rfl (by decide) (ok_lt (okL.sA (okL.sA (okL.sA (okL.sA (okL.sA (okL.sA (okL.sA (okL.sA (okL.sA (okL.sA (okL.sA (okL.sA (okL.sA (okL.sA (okL.sA (okL.sA (okL.sA (okL.sA (okL.sA (okL.sA (okL.sA (okL.sA (okL.sA (okL.sA (okL.sA (okL.sI (okL.sI s1_ok _ _ _) _ _ _) _ (List.length_set ..)) _ (List.length_set ..)) _ (List.length_set ..)) _ (List.length_set ..)) _ (List.length_set ..)) _ (List.length_set ..)) _ (List.length_set ..)) _ (List.length_set ..)) _ (List.length_set ..)) _ (List.length_set ..)) _ (List.length_set ..)) _ (List.length_set ..)) _ (List.length_set ..)) _ (List.length_set ..)) _ (List.length_set ..)) _ (List.length_set ..)) _ (List.length_set ..)) _ (List.length_set ..)) _ (List.length_set ..)) _ (List.length_set ..)) _ (List.length_set ..)) _ (List.length_set ..)) _ (List.length_set ..)) _ (List.length_set ..)) _ (List.length_set ..)) (c := 84) (n := 4) (by decide) rfl (by decide) (by decide)) (wa_84 _ _) ?_
                    refine rb_push ?_
                    refine rb_istore (lv' := [some (.ref 68), some (.int 3), some (.int (-1)), some (.int (c)), some (.int 0)]) rfl ?_
                    refine rb_goto ?_
                    refine rn_step rfl ?_
                    refine rb_iload rfl ?_
                    refine rb_push ?_
                    refine rb_cge (fun h => absurd h (by decide)) (fun _ => ?_)
                    refine rb_aload rfl ?_
                    refine rb_getf (v := .ref 85) rfl ?_
                    refine rb_push ?_
                    refine rb_iload rfl ?_
                    refine rb_binL (z := 72) (by decide) ?_
                    refine rb_iload rfl ?_
                    refine rb_binL (z := 72) (by decide) ?_
                    refine rb_push ?_
                    refine rb_iast rfl (by decide) (ok_lt (okL.sA (okL.sA (okL.sA (okL.sA (okL.sA (okL.sA (okL.sA (okL.sA (okL.sA (okL.sA (okL.sA (okL.sA (okL.sA (okL.sA (okL.sA (okL.sA (okL.sA (okL.sA (okL.sA (okL.sA (okL.sA (okL.sA (okL.sA (okL.sA (okL.sA (okL.sA (okL.sI (okL.sI s1_ok _ _ _) _ _ _) _ (List.length_set ..)) _ (List.length_set ..)) _ (List.length_set ..)) _ (List.length_set ..)) _ (List.length_set ..)) _ (List.length_set ..)) _ (List.length_set ..)) _ (List.length_set ..)) _ (List.length_set ..)) _ (List.length_set ..)) _ (List.length_set ..)) _ (List.length_set ..)) _ (List.length_set ..)) _ (List.length_set ..)) _ (List.length_set ..)) _ (List.length_set ..)) _ (List.length_set ..)) _ (List.length_set ..)) _ (List.length_set ..)) _ (List.length_set ..)) _ (List.length_set ..)) _ (List.length_set ..)) _ (List.length_set ..)) _ (List.length_set ..)) _ (List.length_set ..)) _ (List.length_set ..)) (c := 85) (n := 96) (by decide) rfl (by decide) (by decide)) (wa_85 _ _) ?_
                    refine rb_iinc (lv' := [some (.ref 68), some (.int 3), some (.int (-1)), some (.int (c)), some (.int 1)]) rfl rfl ?_
                    refine rb_goto ?_
                    refine rn_step rfl ?_
                    refine rb_iload rfl ?_
                    refine rb_push ?_
                    refine rb_cge (fun h => absurd h (by decide)) (fun _ => ?_)
                    refine rb_aload rfl ?_
                    refine rb_getf (v := .ref 85) rfl ?_
                    refine rb_push ?_
                    refine rb_iload rfl ?_
                    refine rb_binL (z := 72) (by decide) ?_
                    refine rb_iload rfl ?_
                    refine rb_binL (z := 73) (by decide) ?_
                    refine rb_push ?_
                    refine rb_iast rfl (by decide) (ok_lt (okL.sA (okL.sA (okL.sA (okL.sA (okL.sA (okL.sA (okL.sA (okL.sA (okL.sA (okL.sA (okL.sA (okL.sA (okL.sA (okL.sA (okL.sA (okL.sA (okL.sA (okL.sA (okL.sA (okL.sA (okL.sA (okL.sA (okL.sA (okL.sA (okL.sA (okL.sA (okL.sA (okL.sI (okL.sI s1_ok _ _ _) _ _ _) _ (List.length_set ..)) _ (List.length_set ..)) _ (List.length_set ..)) _ (List.length_set ..)) _ (List.length_set ..)) _ (List.length_set ..)) _ (List.length_set ..)) _ (List.length_set ..)) _ (List.length_set ..)) _ (List.length_set ..)) _ (List.length_set ..)) _ (List.length_set ..)) _ (List.length_set ..)) _ (List.length_set ..)) _ (List.length_set ..)) _ (List.length_set ..)) _ (List.length_set ..)) _ (List.length_set ..)) _ (List.length_set ..)) _ (List.length_set ..)) _ (List.length_set ..)) _ (List.length_set ..)) _ (List.length_set ..)) _ (List.length_set ..)) _ (List.length_set ..)) _ (List.length_set ..)) _ (List.length_set ..)) (c := 85) (n := 96) (by decide) rfl (by decide) (by decide)) (wa_85 _ _) ?_
                    refine rb_iinc (lv' := [some (.ref 68), some (.int 3), some (.int (-1)), some (.int (c)), some (.int 2)]) rfl rfl ?_
                    refine rb_goto ?_
                    refine rn_step rfl ?_
                    refine rb_iload rfl ?_
                    refine rb_push ?_
                    refine rb_cge (fun h => absurd h (by decide)) (fun _ => ?_)
                    refine rb_aload rfl ?_
                    refine rb_getf (v := .ref 85) rfl ?_
                    refine rb_push ?_
                    refine rb_iload rfl ?_
                    refine rb_binL (z := 72) (by decide) ?_
                    refine rb_iload rfl ?_
                    refine rb_binL (z := 74) (by decide) ?_
                    refine rb_push ?_
                    refine rb_iast rfl (by decide) (ok_lt (okL.sA (okL.sA (okL.sA (okL.sA (okL.sA (okL.sA (okL.sA (okL.sA (okL.sA (okL.sA (okL.sA (okL.sA (okL.sA (okL.sA (okL.sA (okL.sA (okL.sA (okL.sA (okL.sA (okL.sA (okL.sA (okL.sA (okL.sA (okL.sA (okL.sA (okL.sA (okL.sA (okL.sA (okL.sI (okL.sI s1_ok _ _ _) _ _ _) _ (List.length_set ..)) _ (List.length_set ..)) _ (List.length_set ..)) _ (List.length_set ..)) _ (List.length_set ..)) _ (List.length_set ..)) _ (List.length_set ..)) _ (List.length_set ..)) _ (List.length_set ..)) _ (List.length_set ..)) _ (List.length_set ..)) _ (List.length_set ..)) _ (List.length_set ..)) _ (List.length_set ..)) _ (List.length_set ..)) _ (List.length_set ..)) _ (List.length_set ..)) _ (List.length_set ..)) _ (List.length_set ..)) _ (List.length_set ..)) _ (List.length_set ..)) _ (List.length_set ..)) _ (List.length_set ..)) _ (List.length_set ..)) _ (List.length_set ..)) _ (List.length_set ..)) _ (List.length_set ..)) _ (List.length_set ..)) (c := 85) (n := 96) (by decide) rfl (by decide) (by decide)) (wa_85 _ _) ?_
                    refine rb_iinc (lv' := [some (.ref 68), some (.int 3), some (.int (-1)), some (.int (c)), some (.int 3)]) rfl rfl ?_
                    refine rb_goto ?_
                    refine rn_step rfl ?_
                    refine rb_iload rfl ?_
                    refine rb_push ?_
                    refine rb_cge (fun h => absurd h (by decide)) (fun _ => ?_)
                    refine rb_aload rfl ?_
                    refine rb_getf (v := .ref 85) rfl ?_
                    refine rb_push ?_
                    refine rb_iload rfl ?_
                    refine rb_binL (z := 72) (by decide) ?_
                    refine rb_iload rfl ?_
                    refine rb_binL (z := 75) (by decide) ?_
                    refine rb_push ?_
                    refine rb_iast rfl (by decide) (ok_lt (okL.sA (okL.sA (okL.sA (okL.sA (okL.sA (okL.sA (okL.sA (okL.sA (okL.sA (okL.sA (okL.sA (okL.sA (okL.sA (okL.sA (okL.sA (okL.sA (okL.sA (okL.sA (okL.sA (okL.sA (okL.sA (okL.sA (okL.sA (okL.sA (okL.sA (okL.sA (okL.sA (okL.sA (okL.sA (okL.sI (okL.sI s1_ok _ _ _) _ _ _) _ (List.length_set ..)) _ (List.length_set ..)) _ (List.length_set ..)) _ (List.length_set ..)) _ (List.length_set ..)) _ (List.length_set ..)) _ (List.length_set ..)) _ (List.length_set ..)) _ (List.length_set ..)) _ (List.length_set ..)) _ (List.length_set ..)) _ (List.length_set ..)) _ (List.length_set ..)) _ (List.length_set ..)) _ (List.length_set ..)) _ (List.length_set ..)) _ (List.length_set ..)) _ (List.length_set ..)) _ (List.length_set ..)) _ (List.length_set ..)) _ (List.length_set ..)) _ (List.length_set ..)) _ (List.length_set ..)) _ (List.length_set ..)) _ (List.length_set ..)) _ (List.length_set ..)) _ (List.length_set ..)) _ (List.length_set ..)) _ (List.length_set ..)) (c := 85) (n := 96) (by decide) rfl (by decide) (by decide)) (wa_85 _ _) ?_
                    refine rb_iinc (lv' := [some (.ref 68), some (.int 3), some (.int (-1)), some (.int (c)), some (.int 4)]) rfl rfl ?_
                    refine rb_goto ?_
                    refine rn_step rfl ?_
                    refine rb_iload rfl ?_
                    refine rb_push ?_
                    refine rb_cge (fun h => absurd h (by decide)) (fun _ => ?_)
                    refine rb_aload rfl ?_
                    refine rb_getf (v := .ref 85) rfl ?_
                    refine rb_push ?_
                    refine rb_iload rfl ?_
                    refine rb_binL (z := 72) (by decide) ?_
                    refine rb_iload rfl ?_
                    refine rb_binL (z := 76) (by decide) ?_
                    refine rb_push ?_
                    refine rb_iast rfl (by decide) (ok_lt (okL.sA (okL.sA (okL.sA (okL.sA (okL.sA (okL.sA (okL.sA (okL.sA (okL.sA (okL.sA (okL.sA (okL.sA (okL.sA (okL.sA (okL.sA (okL.sA (okL.sA (okL.sA (okL.sA (okL.sA (okL.sA (okL.sA (okL.sA (okL.sA (okL.sA (okL.sA (okL.sA (okL.sA (okL.sA (okL.sA (okL.sI (okL.sI s1_ok _ _ _) _ _ _) _ (List.length_set ..)) _ (List.length_set ..)) _ (List.length_set ..)) _ (List.length_set ..)) _ (List.length_set ..)) _ (List.length_set ..)) _ (List.length_set ..)) _ (List.length_set ..)) _ (List.length_set ..)) _ (List.length_set ..)) _ (List.length_set ..)) _ (List.length_set ..)) _ (List.length_set ..)) _ (List.length_set ..)) _ (List.length_set ..)) _ (List.length_set ..)) _ (List.length_set ..)) _ (List.length_set ..)) _ (List.length_set ..)) _ (List.length_set ..)) _ (List.length_set ..)) _ (List.length_set ..)) _ (List.length_set ..)) _ (List.length_set ..)) _ (List.length_set ..)) _ (List.length_set ..)) _ (List.length_set ..)) _ (List.length_set ..)) _ (List.length_set ..)) _ (List.length_set ..)) (c := 85) (n := 96) (by decide) rfl (by decide) (by decide)) (wa_85 _ _) ?_
                    refine rb_iinc (lv' := [some (.ref 68), some (.int 3), some (.int (-1)), some (.int (c)), some (.int 5)]) rfl rfl ?_
                    refine rb_goto ?_
                    refine rn_step rfl ?_
                    refine rb_iload rfl ?_
                    refine rb_push ?_
                    refine rb_cge (fun h => absurd h (by decide)) (fun _ => ?_)
                    refine rb_aload rfl ?_
                    refine rb_getf (v := .ref 85) rfl ?_
                    refine rb_push ?_
                    refine rb_iload rfl ?_
                    refine rb_binL (z := 72) (by decide) ?_
                    refine rb_iload rfl ?_
                    refine rb_binL (z := 77) (by decide) ?_
                    refine rb_push ?_
                    refine rb_iast rfl (by decide) (ok_lt (okL.sA (okL.sA (okL.sA (okL.sA (okL.sA (okL.sA (okL.sA (okL.sA (okL.sA (okL.sA (okL.sA (okL.sA (okL.sA (okL.sA (okL.sA (okL.sA (okL.sA (okL.sA (okL.sA (okL.sA (okL.sA (okL.sA (okL.sA (okL.sA (okL.sA (okL.sA (okL.sA (okL.sA (okL.sA (okL.sA (okL.sA (okL.sI (okL.sI s1_ok _ _ _) _ _ _) _ (List.length_set ..)) _ (List.length_set ..)) _ (List.length_set ..)) _ (List.length_set ..)) _ (List.length_set ..)) _ (List.length_set ..)) _ (List.length_set ..)) _ (List.length_set ..)) _ (List.length_set ..)) _ (List.length_set ..)) _ (List.length_set ..)) _ (List.length_set ..)) _ (List.length_set ..)) _ (List.length_set ..)) _ (List.length_set ..)) _ (List.length_set ..)) _ (List.length_set ..)) _ (List.length_set ..)) _ (List.length_set ..)) _ (List.length_set ..)) _ (List.length_set ..)) _ (List.length_set ..)) _ (List.length_set ..)) _ (List.length_set ..)) _ (List.length_set ..)) _ (List.length_set ..)) _ (List.length_set ..)) _ (List.length_set ..)) _ (List.length_set ..)) _ (List.length_set ..)) _ (List.length_set ..)) (c := 85) (n := 96) (by decide) rfl (by decide) (by decide)) (wa_85 _ _) ?_
                    refine rb_iinc (lv' := [some (.ref 68), some (.int 3), some (.int (-1)), some (.int (c)), some (.int 6)]) rfl rfl ?_
                    refine rb_goto ?_
                    refine rn_step rfl ?_
                    refine rb_iload rfl ?_
                    refine rb_push ?_
                    refine rb_cge (fun h => absurd h (by decide)) (fun _ => ?_)
                    refine rb_aload rfl ?_
                    refine rb_getf (v := .ref 85) rfl ?_
                    refine rb_push ?_
                    refine rb_iload rfl ?_
                    refine rb_binL (z := 72) (by decide) ?_
                    refine rb_iload rfl ?_
                    refine rb_binL (z := 78) (by decide) ?_
                    refine rb_push ?_
                    refine rb_iast rfl (by decide) (ok_lt (okL.sA (okL.sA (okL.sA (okL.sA (okL.sA (okL.sA (okL.sA (okL.sA (okL.sA (okL.sA (okL.sA (okL.sA (okL.sA (okL.sA (okL.sA (okL.sA (okL.sA (okL.sA (okL.sA (okL.sA (okL.sA (okL.sA (okL.sA (okL.sA (okL.sA (okL.sA (okL.sA (okL.sA (okL.sA (okL.sA (okL.sA (okL.sA (okL.sI (okL.sI s1_ok _ _ _) _ _ _) _ (List.length_set ..)) _ (List.length_set ..)) _ (List.length_set ..)) _ (List.length_set ..)) _ (List.length_set ..)) _ (List.length_set ..)) _ (List.length_set ..)) _ (List.length_set ..)) _ (List.length_set ..)) _ (List.length_set ..)) _ (List.length_set ..)) _ (List.length_set ..)) _ (List.length_set ..)) _ (List.length_set ..)) _ (List.length_set ..)) _ (List.length_set ..)) _ (List.length_set ..)) _ (List.length_set ..)) _ (List.length_set ..)) _ (List.length_set ..)) _ (List.length_set ..)) _ (List.length_set ..)) _ (List.length_set ..)) _ (List.length_set ..)) _ (List.length_set ..)) _ (List.length_set ..)) _ (List.length_set ..)) _ (List.length_set ..)) _ (List.length_set ..)) _ (List.length_set ..)) _ (List.length_set ..)) _ (List.length_set ..)) (c := 85) (n := 96) (by decide) rfl (by decide) (by decide)) (wa_85 _ _) ?_
                    refine rb_iinc (lv' := [some (.ref 68), some (.int 3), some (.int (-1)), some (.int (c)), some (.int 7)]) rfl rfl ?_
                    refine rb_goto ?_
                    refine rn_step rfl ?_
                    refine rb_iload rfl ?_
                    refine rb_push ?_
                    refine rb_cge (fun h => absurd h (by decide)) (fun _ => ?_)
                    refine rb_aload rfl ?_
                    refine rb_getf (v := .ref 85) rfl ?_
                    refine rb_push ?_
                    refine rb_iload rfl ?_
                    refine rb_binL (z := 72) (by decide) ?_
                    refine rb_iload rfl ?_
                    refine rb_binL (z := 79) (by decide) ?_
                    refine rb_push ?_
                    refine rb_iast rfl (by decide) (ok_lt (okL.sA (okL.sA (okL.sA (okL.sA (okL.sA (okL.sA (okL.sA (okL.sA (okL.sA (okL.sA (okL.sA (okL.sA (okL.sA (okL.sA (okL.sA (okL.sA (okL.sA (okL.sA (okL.sA (okL.sA (okL.sA (okL.sA (okL.sA (okL.sA (okL.sA (okL.sA (okL.sA (okL.sA (okL.sA (okL.sA (okL.sA (okL.sA (okL.sA (okL.sI (okL.sI s1_ok _ _ _) _ _ _) _ (List.length_set ..)) _ (List.length_set ..)) _ (List.length_set ..)) _ (List.length_set ..)) _ (List.length_set ..)) _ (List.length_set ..)) _ (List.length_set ..)) _ (List.length_set ..)) _ (List.length_set ..)) _ (List.length_set ..)) _ (List.length_set ..)) _ (List.length_set ..)) _ (List.length_set ..)) _ (List.length_set ..)) _ (List.length_set ..)) _ (List.length_set ..)) _ (List.length_set ..)) _ (List.length_set ..)) _ (List.length_set ..)) _ (List.length_set ..)) _ (List.length_set ..)) _ (List.length_set ..)) _ (List.length_set ..)) _ (List.length_set ..)) _ (List.length_set ..)) _ (List.length_set ..)) _ (List.length_set ..)) _ (List.length_set ..)) _ (List.length_set ..)) _ (List.length_set ..)) _ (List.length_set ..)) _ (List.length_set ..)) _ (List.length_set ..)) (c := 85) (n := 96) (by decide) rfl (by decide) (by decide)) (wa_85 _ _) ?_
                    refine rb_iinc (lv' := [some (.ref 68), some (.int 3), some (.int (-1)), some (.int (c)), some (.int 8)]) rfl rfl ?_
                    refine rb_goto ?_
                    refine rn_step rfl ?_
                    refine rb_iload rfl ?_
                    refine rb_push ?_
                    refine rb_cge (fun h => absurd h (by decide)) (fun _ => ?_)
                    refine rb_aload rfl ?_
                    refine rb_getf (v := .ref 85) rfl ?_
                    refine rb_push ?_
                    refine rb_iload rfl ?_
                    refine rb_binL (z := 72) (by decide) ?_
                    refine rb_iload rfl ?_
                    refine rb_binL (z := 80) (by decide) ?_
                    refine rb_push ?_
                    refine rb_iast rfl (by decide) (ok_lt (okL.sA (okL.sA (okL.sA (okL.sA (okL.sA (okL.sA (okL.sA (okL.sA (okL.sA (okL.sA (okL.sA (okL.sA (okL.sA (okL.sA (okL.sA (okL.sA (okL.sA (okL.sA (okL.sA (okL.sA (okL.sA (okL.sA (okL.sA (okL.sA (okL.sA (okL.sA (okL.sA (okL.sA (okL.sA (okL.sA (okL.sA (okL.sA (okL.sA (okL.sA (okL.sI (okL.sI s1_ok _ _ _) _ _ _) _ (List.length_set ..)) _ (List.length_set ..)) _ (List.length_set ..)) _ (List.length_set ..)) _ (List.length_set ..)) _ (List.length_set ..)) _ (List.length_set ..)) _ (List.length_set ..)) _ (List.length_set ..)) _ (List.length_set ..)) _ (List.length_set ..)) _ (List.length_set ..)) _ (List.length_set ..)) _ (List.length_set ..)) _ (List.length_set ..)) _ (List.length_set ..)) _ (List.length_set ..)) _ (List.length_set ..)) _ (List.length_set ..)) _ (List.length_set ..)) _ (List.length_set ..)) _ (List.length_set ..)) _ (List.length_set ..)) _ (List.length_set ..)) _ (List.length_set ..)) _ (List.length_set ..)) _ (List.length_set ..)) _ (List.length_set ..)) _ (List.length_set ..)) _ (List.length_set ..)) _ (List.length_set ..)) _ (List.length_set ..)) _ (List.length_set ..)) _ (List.length_set ..)) (c := 85) (n := 96) (by decide) rfl (by decide) (by decide)) (wa_85 _ _) ?_
                    refine rb_iinc (lv' := [some (.ref 68), some (.int 3), some (.int (-1)), some (.int (c)), some (.int 9)]) rfl rfl ?_
                    refine rb_goto ?_
                    refine rn_step rfl ?_
                    refine rb_iload rfl ?_
                    refine rb_push ?_
                    refine rb_cge (fun h => absurd h (by decide)) (fun _ => ?_)
                    refine rb_aload rfl ?_
                    refine rb_getf (v := .ref 85) rfl ?_
                    refine rb_push ?_
                    refine rb_iload rfl ?_
                    refine rb_binL (z := 72) (by decide) ?_
                    refine rb_iload rfl ?_
                    refine rb_binL (z := 81) (by decide) ?_
                    refine rb_push ?_
                    refine rb_iast rfl (by decide) (ok_lt (okL.sA (okL.sA (okL.sA (okL.sA (okL.sA (okL.sA (okL.sA (okL.sA (okL.sA (okL.sA (okL.sA (okL.sA (okL.sA (okL.sA (okL.sA (okL.sA (okL.sA (okL.sA (okL.sA (okL.sA (okL.sA (okL.sA (okL.sA (okL.sA (okL.sA (okL.sA (okL.sA (okL.sA (okL.sA (okL.sA (okL.sA (okL.sA (okL.sA (okL.sA (okL.sA (okL.sI (okL.sI s1_ok _ _ _) _ _ _) _ (List.length_set ..)) _ (List.length_set ..)) _ (List.length_set ..)) _ (List.length_set ..)) _ (List.length_set ..)) _ (List.length_set ..)) _ (List.length_set ..)) _ (List.length_set ..)) _ (List.length_set ..)) _ (List.length_set ..)) _ (List.length_set ..)) _ (List.length_set ..)) _ (List.length_set ..)) _ (List.length_set ..)) _ (List.length_set ..)) _ (List.length_set ..)) _ (List.length_set ..)) _ (List.length_set ..)) _ (List.length_set ..)) _ (List.length_set ..)) _ (List.length_set ..)) _ (List.length_set ..)) _ (List.length_set ..)) _ (List.length_set ..)) _ (List.length_set ..)) _ (List.length_set ..)) _ (List.length_set ..)) _ (List.length_set ..)) _ (List.length_set ..)) _ (List.length_set ..)) _ (List.length_set ..)) _ (List.length_set ..)) _ (List.length_set ..)) _ (List.length_set ..)) _ (List.length_set ..)) (c := 85) (n := 96) (by decide) rfl (by decide) (by decide)) (wa_85 _ _) ?_
                    refine rb_iinc (lv' := [some (.ref 68), some (.int 3), some (.int (-1)), some (.int (c)), some (.int 10)]) rfl rfl ?_
                    refine rb_goto ?_
                    refine rn_step rfl ?_
                    refine rb_iload rfl ?_
                    refine rb_push ?_
                    refine rb_cge (fun h => absurd h (by decide)) (fun _ => ?_)
                    refine rb_aload rfl ?_
                    refine rb_getf (v := .ref 85) rfl ?_
                    refine rb_push ?_
                    refine rb_iload rfl ?_
                    refine rb_binL (z := 72) (by decide) ?_
                    refine rb_iload rfl ?_
                    refine rb_binL (z := 82) (by decide) ?_
                    refine rb_push ?_
                    refine rb_iast rfl (by decide) (ok_lt (okL.sA (okL.sA (okL.sA (okL.sA (okL.sA (okL.sA (okL.sA (okL.sA (okL.sA (okL.sA (okL.sA (okL.sA (okL.sA (okL.sA (okL.sA (okL.sA (okL.sA (okL.sA (okL.sA (okL.sA (okL.sA (okL.sA (okL.sA (okL.sA (okL.sA (okL.sA (okL.sA (okL.sA (okL.sA (okL.sA (okL.sA (okL.sA (okL.sA (okL.sA (okL.sA (okL.sA (okL.sI (okL.sI s1_ok _ _ _) _ _ _) _ (List.length_set ..)) _ (List.length_set ..)) _ (List.length_set ..)) _ (List.length_set ..)) _ (List.length_set ..)) _ (List.length_set ..)) _ (List.length_set ..)) _ (List.length_set ..)) _ (List.length_set ..)) _ (List.length_set ..)) _ (List.length_set ..)) _ (List.length_set ..)) _ (List.length_set ..)) _ (List.length_set ..)) _ (List.length_set ..)) _ (List.length_set ..)) _ (List.length_set ..)) _ (List.length_set ..)) _ (List.length_set ..)) _ (List.length_set ..)) _ (List.length_set ..)) _ (List.length_set ..)) _ (List.length_set ..)) _ (List.length_set ..)) _ (List.length_set ..)) _ (List.length_set ..)) _ (List.length_set ..)) _ (List.length_set ..)) _ (List.length_set ..)) _ (List.length_set ..)) _ (List.length_set ..)) _ (List.length_set ..)) _ (List.length_set ..)) _ (List.length_set ..)) _ (List.length_set ..)) _ (List.length_set ..)) (c := 85) (n := 96) (by decide) rfl (by decide) (by decide)) (wa_85 _ _) ?_
                    refine rb_iinc (lv' := [some (.ref 68), some (.int 3), some (.int (-1)), some (.int (c)), some (.int 11)]) rfl rfl ?_
                    refine rb_goto ?_
                    refine rn_step rfl ?_
                    refine rb_iload rfl ?_
                    refine rb_push ?_
                    refine rb_cge (fun h => absurd h (by decide)) (fun _ => ?_)
                    refine rb_aload rfl ?_
                    refine rb_getf (v := .ref 85) rfl ?_
                    refine rb_push ?_
                    refine rb_iload rfl ?_
                    refine rb_binL (z := 72) (by decide) ?_
                    refine rb_iload rfl ?_
                    refine rb_binL (z := 83) (by decide) ?_
                    refine rb_push ?_
                    refine rb_iast rfl (by decide) (ok_lt (okL.sA (okL.sA (okL.sA (okL.sA (okL.sA (okL.sA (okL.sA (okL.sA (okL.sA (okL.sA (okL.sA (okL.sA (okL.sA (okL.sA (okL.sA (okL.sA (okL.sA (okL.sA (okL.sA (okL.sA (okL.sA (okL.sA (okL.sA (okL.sA (okL.sA (okL.sA (okL.sA (okL.sA (okL.sA (okL.sA (okL.sA (okL.sA (okL.sA (okL.sA (okL.sA (okL.sA (okL.sA (okL.sI (okL.sI s1_ok _ _ _) _ _ _) _ (List.length_set ..)) _ (List.length_set ..)) _ (List.length_set ..)) _ (List.length_set ..)) _ (List.length_set ..)) _ (List.length_set ..)) _ (List.length_set ..)) _ (List.length_set ..)) _ (List.length_set ..)) _ (List.length_set ..)) _ (List.length_set ..)) _ (List.length_set ..)) _ (List.length_set ..)) _ (List.length_set ..)) _ (List.length_set ..)) _ (List.length_set ..)) _ (List.length_set ..)) _ (List.length_set ..)) _ (List.length_set ..)) _ (List.length_set ..)) _ (List.length_set ..)) _ (List.length_set ..)) _ (List.length_set ..)) _ (List.length_set ..)) _ (List.length_set ..)) _ (List.length_set ..)) _ (List.length_set ..)) _ (List.length_set ..)) _ (List.length_set ..)) _ (List.length_set ..)) _ (List.length_set ..)) _ (List.length_set ..)) _ (List.length_set ..)) _ (List.length_set ..)) _ (List.length_set ..)) _ (List.length_set ..)) _ (List.length_set ..)) (c := 85) (n := 96) (by decide) rfl (by decide) (by decide)) (wa_85 _ _) ?_
                    refine rb_iinc (lv' := [some (.ref 68), some (.int 3), some (.int (-1)), some (.int (c)), some (.int 12)]) rfl rfl ?_
                    refine rb_goto ?_
                    refine rn_step rfl ?_
                    refine rb_iload rfl ?_
                    refine rb_push ?_
                    refine rb_cge (fun h => absurd h (by decide)) (fun _ => ?_)
                    refine rb_aload rfl ?_
                    refine rb_getf (v := .ref 85) rfl ?_
                    refine rb_push ?_
                    refine rb_iload rfl ?_
                    refine rb_binL (z := 72) (by decide) ?_
                    refine rb_iload rfl ?_
                    refine rb_binL (z := 84) (by decide) ?_
                    refine rb_push ?_
                    refine rb_iast rfl (by decide) (ok_lt (okL.sA (okL.sA (okL.sA (okL.sA (okL.sA (okL.sA (okL.sA (okL.sA (okL.sA (okL.sA (okL.sA (okL.sA (okL.sA (okL.sA (okL.sA (okL.sA (okL.sA (okL.sA (okL.sA (okL.sA (okL.sA (okL.sA (okL.sA (okL.sA (okL.sA (okL.sA (okL.sA (okL.sA (okL.sA (okL.sA (okL.sA (okL.sA (okL.sA (okL.sA (okL.sA (okL.sA (okL.sA (okL.sA (okL.sI (okL.sI s1_ok _ _ _) _ _ _) _ (List.length_set ..)) _ (List.length_set ..)) _ (List.length_set ..)) _ (List.length_set ..)) _ (List.length_set ..)) _ (List.length_set ..)) _ (List.length_set ..)) _ (List.length_set ..)) _ (List.length_set ..)) _ (List.length_set ..)) _ (List.length_set ..)) _ (List.length_set ..)) _ (List.length_set ..)) _ (List.length_set ..)) _ (List.length_set ..)) _ (List.length_set ..)) _ (List.length_set ..)) _ (List.length_set ..)) _ (List.length_set ..)) _ (List.length_set ..)) _ (List.length_set ..)) _ (List.length_set ..)) _ (List.length_set ..)) _ (List.length_set ..)) _ (List.length_set ..)) _ (List.length_set ..)) _ (List.length_set ..)) _ (List.length_set ..)) _ (List.length_set ..)) _ (List.length_set ..)) _ (List.length_set ..)) _ (List.length_set ..)) _ (List.length_set ..)) _ (List.length_set ..)) _ (List.length_set ..)) _ (List.length_set ..)) _ (List.length_set ..)) _ (List.length_set ..)) (c := 85) (n := 96) (by decide) rfl (by decide) (by decide)) (wa_85 _ _) ?_
                    refine rb_iinc (lv' := [some (.ref 68), some (.int 3), some (.int (-1)), some (.int (c)), some (.int 13)]) rfl rfl ?_
                    refine rb_goto ?_
                    refine rn_step rfl ?_
                    refine rb_iload rfl ?_
                    refine rb_push ?_
                    refine rb_cge (fun h => absurd h (by decide)) (fun _ => ?_)
                    refine rb_aload rfl ?_
                    refine rb_getf (v := .ref 85) rfl ?_
                    refine rb_push ?_
                    refine rb_iload rfl ?_
                    refine rb_binL (z := 72) (by decide) ?_
                    refine rb_iload rfl ?_
                    refine rb_binL (z := 85) (by decide) ?_
                    refine rb_push ?_
                    refine rb_iast rfl (by decide) (ok_lt (okL.sA (okL.sA (okL.sA (okL.sA (okL.sA (okL.sA (okL.sA (okL.sA (okL.sA (okL.sA (okL.sA (okL.sA (okL.sA (okL.sA (okL.sA (okL.sA (okL.sA (okL.sA (okL.sA (okL.sA (okL.sA (okL.sA (okL.sA (okL.sA (okL.sA (okL.sA (okL.sA (okL.sA (okL.sA (okL.sA (okL.sA (okL.sA (okL.sA (okL.sA (okL.sA (okL.sA (okL.sA (okL.sA (okL.sA (okL.sI (okL.sI s1_ok _ _ _) _ _ _) _ (List.length_set ..)) _ (List.length_set ..)) _ (List.length_set ..)) _ (List.length_set ..)) _ (List.length_set ..)) _ (List.length_set ..)) _ (List.length_set ..)) _ (List.length_set ..)) _ (List.length_set ..)) _ (List.length_set ..)) _ (List.length_set ..)) _ (List.length_set ..)) _ (List.length_set ..)) _ (List.length_set ..)) _ (List.length_set ..)) _ (List.length_set ..)) _ (List.length_set ..)) _ (List.length_set ..)) _ (List.length_set ..)) _ (List.length_set ..)) _ (List.length_set ..)) _ (List.length_set ..)) _ (List.length_set ..)) _ (List.length_set ..)) _ (List.length_set ..)) _ (List.length_set ..)) _ (List.length_set ..)) _ (List.length_set ..)) _ (List.length_set ..)) _ (List.length_set ..)) _ (List.length_set ..)) _ (List.length_set ..)) _ (List.length_set ..)) _ (List.length_set ..)) _ (List.length_set ..)) _ (List.length_set ..)) _ (List.length_set ..)) _ (List.length_set ..)) _ (List.length_set ..)) (c := 85) (n := 96) (by decide) rfl (by decide) (by decide)) (wa_85 _ _) ?_
                    refine rb_iinc (lv' := [some (.ref 68), some (.int 3), some (.int (-1)), some (.int (c)), some (.int 14)]) rfl rfl ?_
                    refine rb_goto ?_
                    refine rn_step rfl ?_
                    refine rb_iload rfl ?_
                    refine rb_push ?_
                    refine rb_cge (fun h => absurd h (by decide)) (fun _ => ?_)
                    refine rb_aload rfl ?_
                    refine rb_getf (v := .ref 85) rfl ?_
                    refine rb_push ?_
                    refine rb_iload rfl ?_
                    refine rb_binL (z := 72) (by decide) ?_
                    refine rb_iload rfl ?_
                    refine rb_binL (z := 86) (by decide) ?_
                    refine rb_push ?_
                    refine rb_iast rfl (by decide) (ok_lt (okL.sA (okL.sA (okL.sA (okL.sA (okL.sA (okL.sA (okL.sA (okL.sA (okL.sA (okL.sA (okL.sA (okL.sA (okL.sA (okL.sA (okL.sA (okL.sA (okL.sA (okL.sA (okL.sA (okL.sA (okL.sA (okL.sA (okL.sA (okL.sA (okL.sA (okL.sA (okL.sA (okL.sA (okL.sA (okL.sA (okL.sA (okL.sA (okL.sA (okL.sA (okL.sA (okL.sA (okL.sA (okL.sA (okL.sA (okL.sA (okL.sI (okL.sI s1_ok _ _ _) _ _ _) _ (List.length_set ..)) _ (List.length_set ..)) _ (List.length_set ..)) _ (List.length_set ..)) _ (List.length_set ..)) _ (List.length_set ..)) _ (List.length_set ..)) _ (List.length_set ..)) _ (List.length_set ..)) _ (List.length_set ..)) _ (List.length_set ..)) _ (List.length_set ..)) _ (List.length_set ..)) _ (List.length_set ..)) _ (List.length_set ..)) _ (List.length_set ..)) _ (List.length_set ..)) _ (List.length_set ..)) _ (List.length_set ..)) _ (List.length_set ..)) _ (List.length_set ..)) _ (List.length_set ..)) _ (List.length_set ..)) _ (List.length_set ..)) _ (List.length_set ..)) _ (List.length_set ..)) _ (List.length_set ..)) _ (List.length_set ..)) _ (List.length_set ..)) _ (List.length_set ..)) _ (List.length_set ..)) _ (List.length_set ..)) _ (List.length_set ..)) _ (List.length_set ..)) _ (List.length_set ..)) _ (List.length_set ..)) _ (List.length_set ..)) _ (List.length_set ..)) _ (List.length_set ..)) _ (List.length_set ..)) (c := 85) (n := 96) (by decide) rfl (by decide) (by decide)) (wa_85 _ _) ?_
                    refine rb_iinc (lv' := [some (.ref 68), some (.int 3), some (.int (-1)), some (.int (c)), some (.int 15)]) rfl rfl ?_
                    refine rb_goto ?_
                    refine rn_step rfl ?_
                    refine rb_iload rfl ?_
                    refine rb_push ?_
                    refine rb_cge (fun h => absurd h (by decide)) (fun _ => ?_)
                    refine rb_aload rfl ?_
                    refine rb_getf (v := .ref 85) rfl ?_
                    refine rb_push ?_
                    refine rb_iload rfl ?_
                    refine rb_binL (z := 72) (by decide) ?_
                    refine rb_iload rfl ?_
                    refine rb_binL (z := 87) (by decide) ?_
                    refine rb_push ?_
                    refine rb_iast rfl (by decide) (ok_lt (okL.sA (okL.sA (okL.sA (okL.sA (okL.sA (okL.sA (okL.sA (okL.sA (okL.sA (okL.sA (okL.sA (okL.sA (okL.sA (okL.sA (okL.sA (okL.sA (okL.sA (okL.sA (okL.sA (okL.sA (okL.sA (okL.sA (okL.sA (okL.sA (okL.sA (okL.sA (okL.sA (okL.sA (okL.sA (okL.sA (okL.sA (okL.sA (okL.sA (okL.sA (okL.sA (okL.sA (okL.sA (okL.sA (okL.sA (okL.sA (okL.sA (okL.sI (okL.sI s1_ok _ _ _) _ _ _) _ (List.length_set ..)) _ (List.length_set ..)) _ (List.length_set ..)) _ (List.length_set ..)) _ (List.length_set ..)) _ (List.length_set ..)) _ (List.length_set ..)) _ (List.length_set ..)) _ (List.length_set ..)) _ (List.length_set ..)) _ (List.length_set ..)) _ (List.length_set ..)) _ (List.length_set ..)) _ (List.length_set ..)) _ (List.length_set ..)) _ (List.length_set ..)) _ (List.length_set ..)) _ (List.length_set ..)) _ (List.length_set ..)) _ (List.length_set ..)) _ (List.length_set ..)) _ (List.length_set ..)) _ (List.length_set ..)) _ (List.length_set ..)) _ (List.length_set ..)) _ (List.length_set ..)) _ (List.length_set ..)) _ (List.length_set ..)) _ (List.length_set ..)) _ (List.length_set ..)) _ (List.length_set ..)) _ (List.length_set ..)) _ (List.length_set ..)) _ (List.length_set ..)) _ (List.length_set ..)) _ (List.length_set ..)) _ (List.length_set ..)) _ (List.length_set ..)) _ (List.length_set ..)) _ (List.length_set ..)) _ (List.length_set ..)) (c := 85) (n := 96) (by decide) rfl (by decide) (by decide)) (wa_85 _ _) ?_
                    refine rb_iinc (lv' := [some (.ref 68), some (.int 3), some (.int (-1)), some (.int (c)), some (.int 16)]) rfl rfl ?_
                    refine rb_goto ?_
                    refine rn_step rfl ?_
                    refine rb_iload rfl ?_
                    refine rb_push ?_
                    refine rb_cge (fun h => absurd h (by decide)) (fun _ => ?_)
                    refine rb_aload rfl ?_
                    refine rb_getf (v := .ref 85) rfl ?_
                    refine rb_push ?_
                    refine rb_iload rfl ?_
                    refine rb_binL (z := 72) (by decide) ?_
                    refine rb_iload rfl ?_
                    refine rb_binL (z := 88) (by decide) ?_
                    refine rb_push ?_
                    refine rb_iast rfl (by decide) (ok_lt (okL.sA (okL.sA (okL.sA (okL.sA (okL.sA (okL.sA (okL.sA (okL.sA (okL.sA (okL.sA (okL.sA (okL.sA (okL.sA (okL.sA (okL.sA (okL.sA (okL.sA (okL.sA (okL.sA (okL.sA (okL.sA (okL.sA (okL.sA (okL.sA (okL.sA (okL.sA (okL.sA (okL.sA (okL.sA (okL.sA (okL.sA (okL.sA (okL.sA (okL.sA (okL.sA (okL.sA (okL.sA (okL.sA (okL.sA (okL.sA (okL.sA (okL.sA (okL.sI (okL.sI s1_ok _ _ _) _ _ _) _ (List.length_set ..)) _ (List.length_set ..)) _ (List.length_set ..)) _ (List.length_set ..)) _ (List.length_set ..)) _ (List.length_set ..)) _ (List.length_set ..)) _ (List.length_set ..)) _ (List.length_set ..)) _ (List.length_set ..)) _ (List.length_set ..)) _ (List.length_set ..)) _ (List.length_set ..)) _ (List.length_set ..)) _ (List.length_set ..)) _ (List.length_set ..)) _ (List.length_set ..)) _ (List.length_set ..)) _ (List.length_set ..)) _ (List.length_set ..)) _ (List.length_set ..)) _ (List.length_set ..)) _ (List.length_set ..)) _ (List.length_set ..)) _ (List.length_set ..)) _ (List.length_set ..)) _ (List.length_set ..)) _ (List.length_set ..)) _ (List.length_set ..)) _ (List.length_set ..)) _ (List.length_set ..)) _ (List.length_set ..)) _ (List.length_set ..)) _ (List.length_set ..)) _ (List.length_set ..)) _ (List.length_set ..)) _ (List.length_set ..)) _ (List.length_set ..)) _ (List.length_set ..)) _ (List.length_set ..)) _ (List.length_set ..)) _ (List.length_set ..)) (c := 85) (n := 96) (by decide) rfl (by decide) (by decide)) (wa_85 _ _) ?_
                    refine rb_iinc (lv' := [some (.ref 68), some (.int 3), some (.int (-1)), some (.int (c)), some (.int 17)]) rfl rfl ?_
                    refine rb_goto ?_
                    refine rn_step rfl ?_
                    refine rb_iload rfl ?_
                    refine rb_push ?_
                    refine rb_cge (fun h => absurd h (by decide)) (fun _ => ?_)
                    refine rb_aload rfl ?_
                    refine rb_getf (v := .ref 85) rfl ?_
                    refine rb_push ?_
                    refine rb_iload rfl ?_
                    refine rb_binL (z := 72) (by decide) ?_
                    refine rb_iload rfl ?_
                    refine rb_binL (z := 89) (by decide) ?_
                    refine rb_push ?_
                    refine rb_iast rfl (by decide) (ok_lt (okL.sA (okL.sA (okL.sA (okL.sA (okL.sA (okL.sA (okL.sA (okL.sA (okL.sA (okL.sA (okL.sA (okL.sA (okL.sA (okL.sA (okL.sA (okL.sA (okL.sA (okL.sA (okL.sA (okL.sA (okL.sA (okL.sA (okL.sA (okL.sA (okL.sA (okL.sA (okL.sA (okL.sA (okL.sA (okL.sA (okL.sA (okL.sA (okL.sA (okL.sA (okL.sA (okL.sA (okL.sA (okL.sA (okL.sA (okL.sA (okL.sA (okL.sA (okL.sA (okL.sI (okL.sI s1_ok _ _ _) _ _ _) _ (List.length_set ..)) _ (List.length_set ..)) _ (List.length_set ..)) _ (List.length_set ..)) _ (List.length_set ..)) _ (List.length_set ..)) _ (List.length_set ..)) _ (List.length_set ..)) _ (List.length_set ..)) _ (List.length_set ..)) _ (List.length_set ..)) _ (List.length_set ..)) _ (List.length_set ..)) _ (List.length_set ..)) _ (List.length_set ..)) _ (List.length_set ..)) _ (List.length_set ..)) _ (List.length_set ..)) _ (List.length_set ..)) _ (List.length_set ..)) _ (List.length_set ..)) _ (List.length_set ..)) _ (List.length_set ..)) _ (List.length_set ..)) _ (List.length_set ..)) _ (List.length_set ..)) _ (List.length_set ..)) _ (List.length_set ..)) _ (List.length_set ..)) _ (List.length_set ..)) _ (List.length_set ..)) _ (List.length_set ..)) _ (List.length_set ..)) _ (List.length_set ..)) _ (List.length_set ..)) _ (List.length_set ..)) _ (List.length_set ..)) _ (List.length_set ..)) _ (List.length_set ..)) _ (List.length_set ..)) _ (List.length_set ..)) _ (List.length_set ..)) _ (List.length_set ..)) (c := 85) (n := 96) (by decide) rfl (by decide) (by decide)) (wa_85 _ _) ?_
                    refine rb_iinc (lv' := [some (.ref 68), some (.int 3), some (.int (-1)), some (.int (c)), some (.int 18)]) rfl rfl ?_
                    refine rb_goto ?_
                    refine rn_step rfl ?_
                    refine rb_iload rfl ?_
                    refine rb_push ?_
                    refine rb_cge (fun h => absurd h (by decide)) (fun _ => ?_)
                    refine rb_aload rfl ?_
                    refine rb_getf (v := .ref 85) rfl ?_
                    refine rb_push ?_
                    refine rb_iload rfl ?_
                    refine rb_binL (z := 72) (by decide) ?_
                    refine rb_iload rfl ?_
                    refine rb_binL (z := 90) (by decide) ?_
                    refine rb_push ?_
                    refine rb_iast rfl (by decide) (ok_lt (okL.sA (okL.sA (okL.sA (okL.sA (okL.sA (okL.sA (okL.sA (okL.sA (okL.sA (okL.sA (okL.sA (okL.sA (okL.sA (okL.sA (okL.sA (okL.sA (okL.sA (okL.sA (okL.sA (okL.sA (okL.sA (okL.sA (okL.sA (okL.sA (okL.sA (okL.sA (okL.sA (okL.sA (okL.sA (okL.sA (okL.sA (okL.sA (okL.sA (okL.sA (okL.sA (okL.sA (okL.sA (okL.sA (okL.sA (okL.sA (okL.sA (okL.sA (okL.sA (okL.sA (okL.sI (okL.sI s1_ok _ _ _) _ _ _) _ (List.length_set ..)) _ (List.length_set ..)) _ (List.length_set ..)) _ (List.length_set ..)) _ (List.length_set ..)) _ (List.length_set ..)) _ (List.length_set ..)) _ (List.length_set ..)) _ (List.length_set ..)) _ (List.length_set ..)) _ (List.length_set ..)) _ (List.length_set ..)) _ (List.length_set ..)) _ (List.length_set ..)) _ (List.length_set ..)) _ (List.length_set ..)) _ (List.length_set ..)) _ (List.length_set ..)) _ (List.length_set ..)) _ (List.length_set ..)) _ (List.length_set ..)) _ (List.length_set ..)) _ (List.length_set ..)) _ (List.length_set ..)) _ (List.length_set ..)) _ (List.length_set ..)) _ (List.length_set ..)) _ (List.length_set ..)) _ (List.length_set ..)) _ (List.length_set ..)) _ (List.length_set ..)) _ (List.length_set ..)) _ (List.length_set ..)) _ (List.length_set ..)) _ (List.length_set ..)) _ (List.length_set ..)) _ (List.length_set ..)) _ (List.length_set ..)) _ (List.length_set ..)) _ (List.length_set ..)) _ (List.length_set ..)) _ (List.length_set ..)) _ (List.length_set ..)) _ (List.length_set ..)) (c := 85) (n := 96) (by decide) rfl (by decide) (by decide)) (wa_85 _ _) ?_
                    refine rb_iinc (lv' := [some (.ref 68), some (.int 3), some (.int (-1)), some (.int (c)), some (.int 19)]) rfl rfl ?_
                    refine rb_goto ?_
                    refine rn_step rfl ?_
                    refine rb_iload rfl ?_
                    refine rb_push ?_
                    refine rb_cge (fun h => absurd h (by decide)) (fun _ => ?_)
                    refine rb_aload rfl ?_
                    refine rb_getf (v := .ref 85) rfl ?_
                    refine rb_push ?_
                    refine rb_iload rfl ?_
                    refine rb_binL (z := 72) (by decide) ?_
                    refine rb_iload rfl ?_
                    refine rb_binL (z := 91) (by decide) ?_
                    refine rb_push ?_
                    refine rb_iast rfl (by decide) (ok_lt (okL.sA (okL.sA (okL.sA (okL.sA (okL.sA (okL.sA (okL.sA (okL.sA (okL.sA (okL.sA (okL.sA (okL.sA (okL.sA (okL.sA (okL.sA (okL.sA (okL.sA (okL.sA (okL.sA (okL.sA (okL.sA (okL.sA (okL.sA (okL.sA (okL.sA (okL.sA (okL.sA (okL.sA (okL.sA (okL.sA (okL.sA (okL.sA (okL.sA (okL.sA (okL.sA (okL.sA (okL.sA (okL.sA (okL.sA (okL.sA (okL.sA (okL.sA (okL.sA (okL.sA (okL.sA (okL.sI (okL.sI s1_ok _ _ _) _ _ _) _ (List.length_set ..)) _ (List.length_set ..)) _ (List.length_set ..)) _ (List.length_set ..)) _ (List.length_set ..)) _ (List.length_set ..)) _ (List.length_set ..)) _ (List.length_set ..)) _ (List.length_set ..)) _ (List.length_set ..)) _ (List.length_set ..)) _ (List.length_set ..)) _ (List.length_set ..)) _ (List.length_set ..)) _ (List.length_set ..)) _ (List.length_set ..)) _ (List.length_set ..)) _ (List.length_set ..)) _ (List.length_set ..)) _ (List.length_set ..)) _ (List.length_set ..)) _ (List.length_set ..)) _ (List.length_set ..)) _ (List.length_set ..)) _ (List.length_set ..)) _ (List.length_set ..)) _ (List.length_set ..)) _ (List.length_set ..)) _ (List.length_set ..)) _ (List.length_set ..)) _ (List.length_set ..)) _ (List.length_set ..)) _ (List.length_set ..)) _ (List.length_set ..)) _ (List.length_set ..)) _ (List.length_set ..)) _ (List.length_set ..)) _ (List.length_set ..)) _ (List.length_set ..)) _ (List.length_set ..)) _ (List.length_set ..)) _ (List.length_set ..)) _ (List.length_set ..)) _ (List.length_set ..)) _ (List.length_set ..)) (c := 85) (n := 96) (by decide) rfl (by decide) (by decide)) (wa_85 _ _) ?_
                    refine rb_iinc (lv' := [some (.ref 68), some (.int 3), some (.int (-1)), some (.int (c)), some (.int 20)]) rfl rfl ?_
                    refine rb_goto ?_
                    refine rn_step rfl ?_
                    refine rb_iload rfl ?_
                    refine rb_push ?_
                    refine rb_cge (fun h => absurd h (by decide)) (fun _ => ?_)
                    refine rb_aload rfl ?_
                    refine rb_getf (v := .ref 85) rfl ?_
                    refine rb_push ?_
                    refine rb_iload rfl ?_
                    refine rb_binL (z := 72) (by decide) ?_
                    refine rb_iload rfl ?_
                    refine rb_binL (z := 92) (by decide) ?_
                    refine rb_push ?_
                    refine rb_iast rfl (by decide) (ok_lt (okL.sA (okL.sA (okL.sA (okL.sA (okL.sA (okL.sA (okL.sA (okL.sA (okL.sA (okL.sA (okL.sA (okL.sA (okL.sA (okL.sA (okL.sA (okL.sA (okL.sA (okL.sA (okL.sA (okL.sA (okL.sA (okL.sA (okL.sA (okL.sA (okL.sA (okL.sA (okL.sA (okL.sA (okL.sA (okL.sA (okL.sA (okL.sA (okL.sA (okL.sA (okL.sA (okL.sA (okL.sA (okL.sA (okL.sA (okL.sA (okL.sA (okL.sA (okL.sA (okL.sA (okL.sA (okL.sA (okL.sI (okL.sI s1_ok _ _ _) _ _ _) _ (List.length_set ..)) _ (List.length_set ..)) _ (List.length_set ..)) _ (List.length_set ..)) _ (List.length_set ..)) _ (List.length_set ..)) _ (List.length_set ..)) _ (List.length_set ..)) _ (List.length_set ..)) _ (List.length_set ..)) _ (List.length_set ..)) _ (List.length_set ..)) _ (List.length_set ..)) _ (List.length_set ..)) _ (List.length_set ..)) _ (List.length_set ..)) _ (List.length_set ..)) _ (List.length_set ..)) _ (List.length_set ..)) _ (List.length_set ..)) _ (List.length_set ..)) _ (List.length_set ..)) _ (List.length_set ..)) _ (List.length_set ..)) _ (List.length_set ..)) _ (List.length_set ..)) _ (List.length_set ..)) _ (List.length_set ..)) _ (List.length_set ..)) _ (List.length_set ..)) _ (List.length_set ..)) _ (List.length_set ..)) _ (List.length_set ..)) _ (List.length_set ..)) _ (List.length_set ..)) _ (List.length_set ..)) _ (List.length_set ..)) _ (List.length_set ..)) _ (List.length_set ..)) _ (List.length_set ..)) _ (List.length_set ..)) _ (List.length_set ..)) _ (List.length_set ..)) _ (List.length_set ..)) _ (List.length_set ..)) _ (List.length_set ..)) (c := 85) (n := 96) (by decide) rfl (by decide) (by decide)) (wa_85 _ _) ?_
                    refine rb_iinc (lv' := [some (.ref 68), some (.int 3), some (.int (-1)), some (.int (c)), some (.int 21)]) rfl rfl ?_
                    refine rb_goto ?_
                    refine rn_step rfl ?_
                    refine rb_iload rfl ?_
                    refine rb_push ?_
                    refine rb_cge (fun h => absurd h (by decide)) (fun _ => ?_)
                    refine rb_aload rfl ?_
                    refine rb_getf (v := .ref 85) rfl ?_
                    refine rb_push ?_
                    refine rb_iload rfl ?_
                    refine rb_binL (z := 72) (by decide) ?_
                    refine rb_iload rfl ?_
                    refine rb_binL (z := 93) (by decide) ?_
                    refine rb_push ?_
                    refine rb_iast rfl (by decide) (ok_lt (okL.sA (okL.sA (okL.sA (okL.sA (okL.sA (okL.sA (okL.sA (okL.sA (okL.sA (okL.sA (okL.sA (okL.sA (okL.sA (okL.sA (okL.sA (okL.sA (okL.sA (okL.sA (okL.sA (okL.sA (okL.sA (okL.sA (okL.sA (okL.sA (okL.sA (okL.sA (okL.sA (okL.sA (okL.sA (okL.sA (okL.sA (okL.sA (okL.sA (okL.sA (okL.sA (okL.sA (okL.sA (okL.sA (okL.sA (okL.sA (okL.sA (okL.sA (okL.sA (okL.sA (okL.sA (okL.sA (okL.sA (okL.sI (okL.sI s1_ok _ _ _) _ _ _) _ (List.length_set ..)) _ (List.length_set ..)) _ (List.length_set ..)) _ (List.length_set ..)) _ (List.length_set ..)) _ (List.length_set ..)) _ (List.length_set ..)) _ (List.length_set ..)) _ (List.length_set ..)) _ (List.length_set ..)) _ (List.length_set ..)) _ (List.length_set ..)) _ (List.length_set ..)) _ (List.length_set ..)) _ (List.length_set ..)) _ (List.length_set ..)) _ (List.length_set ..)) _ (List.length_set ..)) _ (List.length_set ..)) _ (List.length_set ..)) _ (List.length_set ..)) _ (List.length_set ..)) _ (List.length_set ..)) _ (List.length_set ..)) _ (List.length_set ..)) _ (List.length_set ..)) _ (List.length_set ..)) _ (List.length_set ..)) _ (List.length_set ..)) _ (List.length_set ..)) _ (List.length_set ..)) _ (List.length_set ..)) _ (List.length_set ..)) _ (List.length_set ..)) _ (List.length_set ..)) _ (List.length_set ..)) _ (List.length_set ..)) _ (List.length_set ..)) _ (List.length_set ..)) _ (List.length_set ..)) _ (List.length_set ..)) _ (List.length_set ..)) _ (List.length_set ..)) _ (List.length_set ..)) _ (List.length_set ..)) _ (List.length_set ..)) _ (List.length_set ..)) (c := 85) (n := 96) (by decide) rfl (by decide) (by decide)) (wa_85 _ _) ?_
                    refine rb_iinc (lv' := [some (.ref 68), some (.int 3), some (.int (-1)), some (.int (c)), some (.int 22)]) rfl rfl ?_
                    refine rb_goto ?_
                    refine rn_step rfl ?_
                    refine rb_iload rfl ?_
                    refine rb_push ?_
                    refine rb_cge (fun h => absurd h (by decide)) (fun _ => ?_)
                    refine rb_aload rfl ?_
                    refine rb_getf (v := .ref 85) rfl ?_
                    refine rb_push ?_
                    refine rb_iload rfl ?_
                    refine rb_binL (z := 72) (by decide) ?_
                    refine rb_iload rfl ?_
                    refine rb_binL (z := 94) (by decide) ?_
                    refine rb_push ?_
                    refine rb_iast rfl (by decide) (ok_lt (okL.sA (okL.sA (okL.sA (okL.sA (okL.sA (okL.sA (okL.sA (okL.sA (okL.sA (okL.sA (okL.sA (okL.sA (okL.sA (okL.sA (okL.sA (okL.sA (okL.sA (okL.sA (okL.sA (okL.sA (okL.sA (okL.sA (okL.sA (okL.sA (okL.sA (okL.sA (okL.sA (okL.sA (okL.sA (okL.sA (okL.sA (okL.sA (okL.sA (okL.sA (okL.sA (okL.sA (okL.sA (okL.sA (okL.sA (okL.sA (okL.sA (okL.sA (okL.sA (okL.sA (okL.sA (okL.sA (okL.sA (okL.sA (okL.sI (okL.sI s1_ok _ _ _) _ _ _) _ (List.length_set ..)) _ (List.length_set ..)) _ (List.length_set ..)) _ (List.length_set ..)) _ (List.length_set ..)) _ (List.length_set ..)) _ (List.length_set ..)) _ (List.length_set ..)) _ (List.length_set ..)) _ (List.length_set ..)) _ (List.length_set ..)) _ (List.length_set ..)) _ (List.length_set ..)) _ (List.length_set ..)) _ (List.length_set ..)) _ (List.length_set ..)) _ (List.length_set ..)) _ (List.length_set ..)) _ (List.length_set ..)) _ (List.length_set ..)) _ (List.length_set ..)) _ (List.length_set ..)) _ (List.length_set ..)) _ (List.length_set ..)) _ (List.length_set ..)) _ (List.length_set ..)) _ (List.length_set ..)) _ (List.length_set ..)) _ (List.length_set ..)) _ (List.length_set ..)) _ (List.length_set ..)) _ (List.length_set ..)) _ (List.length_set ..)) _ (List.length_set ..)) _ (List.length_set ..)) _ (List.length_set ..)) _ (List.length_set ..)) _ (List.length_set ..)) _ (List.length_set ..)) _ (List.length_set ..)) _ (List.length_set ..)) _ (List.length_set ..)) _ (List.length_set ..)) _ (List.length_set ..)) _ (List.length_set ..)) _ (List.length_set ..)) _ (List.length_set ..)) _ (List.length_set ..)) (c := 85) (n := 96) (by decide) rfl (by decide) (by decide)) (wa_85 _ _) ?_
                    refine rb_iinc (lv' := [some (.ref 68), some (.int 3), some (.int (-1)), some (.int (c)), some (.int 23)]) rfl rfl ?_
                    refine rb_goto ?_
                    refine rn_step rfl ?_
                    refine rb_iload rfl ?_
                    refine rb_push ?_
                    refine rb_cge (fun h => absurd h (by decide)) (fun _ => ?_)
                    refine rb_aload rfl ?_
                    refine rb_getf (v := .ref 85) rfl ?_
                    refine rb_push ?_
                    refine rb_iload rfl ?_
                    refine rb_binL (z := 72) (by decide) ?_
                    refine rb_iload rfl ?_
                    refine rb_binL (z := 95) (by decide) ?_
                    refine rb_push ?_
                    refine rb_iast rfl (by decide) (ok_lt (okL.sA (okL.sA (okL.sA (okL.sA (okL.sA (okL.sA (okL.sA (okL.sA (okL.sA (okL.sA (okL.sA (okL.sA (okL.sA (okL.sA (okL.sA (okL.sA (okL.sA (okL.sA (okL.sA (okL.sA (okL.sA (okL.sA (okL.sA (okL.sA (okL.sA (okL.sA (okL.sA (okL.sA (okL.sA (okL.sA (okL.sA (okL.sA (okL.sA (okL.sA (okL.sA (okL.sA (okL.sA (okL.sA (okL.sA (okL.sA (okL.sA (okL.sA (okL.sA (okL.sA (okL.sA (okL.sA (okL.sA (okL.sA (okL.sA (okL.sI (okL.sI s1_ok _ _ _) _ _ _) _ (List.length_set ..)) _ (List.length_set ..)) _ (List.length_set ..)) _ (List.length_set ..)) _ (List.length_set ..)) _ (List.length_set ..)) _ (List.length_set ..)) _ (List.length_set ..)) _ (List.length_set ..)) _ (List.length_set ..)) _ (List.length_set ..)) _ (List.length_set ..)) _ (List.length_set ..)) _ (List.length_set ..)) _ (List.length_set ..)) _ (List.length_set ..)) _ (List.length_set ..)) _ (List.length_set ..)) _ (List.length_set ..)) _ (List.length_set ..)) _ (List.length_set ..)) _ (List.length_set ..)) _ (List.length_set ..)) _ (List.length_set ..)) _ (List.length_set ..)) _ (List.length_set ..)) _ (List.length_set ..)) _ (List.length_set ..)) _ (List.length_set ..)) _ (List.length_set ..)) _ (List.length_set ..)) _ (List.length_set ..)) _ (List.length_set ..)) _ (List.length_set ..)) _ (List.length_set ..)) _ (List.length_set ..)) _ (List.length_set ..)) _ (List.length_set ..)) _ (List.length_set ..)) _ (List.length_set ..)) _ (List.length_set ..)) _ (List.length_set ..)) _ (List.length_set ..)) _ (List.length_set ..)) _ (List.length_set ..)) _ (List.length_set ..)) _ (List.length_set ..)) _ (List.length_set ..)) _ (List.length_set ..)) (c := 85) (n := 96) (by decide) rfl (by decide) (by decide)) (wa_85 _ _) ?_
                    refine rb_iinc (lv' := [some (.ref 68), some (.int 3), some (.int (-1)), some (.int (c)), some (.int 24)]) rfl rfl ?_
                    refine rb_goto ?_
                    refine rn_step rfl ?_
                    refine rb_iload rfl ?_
                    refine rb_push ?_
                    refine rb_cge (fun _ => ?_) (fun h => absurd (by decide) h)
                    refine rn_step rfl ?_
                    refine rb_aload rfl ?_
                    refine rb_getf (v := .ref 84) rfl ?_
                    refine rb_iload rfl ?_
                    refine rb_iald rfl (by decide) (show _ = some (0) from rfl) ?_
                    refine rb_ret rfl rfl
                  case h3 => exact (okL.sA (okL.sA (okL.sA (okL.sA (okL.sA (okL.sA (okL.sA (okL.sA (okL.sA (okL.sA (okL.sA (okL.sA (okL.sA (okL.sA (okL.sA (okL.sA (okL.sA (okL.sA (okL.sA (okL.sA (okL.sA (okL.sA (okL.sA (okL.sA (okL.sA (okL.sA (okL.sA (okL.sA (okL.sA (okL.sA (okL.sA (okL.sA (okL.sA (okL.sA (okL.sA (okL.sA (okL.sA (okL.sA (okL.sA (okL.sA (okL.sA (okL.sA (okL.sA (okL.sA (okL.sA (okL.sA (okL.sA (okL.sA (okL.sA (okL.sA (okL.sI (okL.sI s1_ok _ _ _) _ _ _) _ (List.length_set ..)) _ (List.length_set ..)) _ (List.length_set ..)) _ (List.length_set ..)) _ (List.length_set ..)) _ (List.length_set ..)) _ (List.length_set ..)) _ (List.length_set ..)) _ (List.length_set ..)) _ (List.length_set ..)) _ (List.length_set ..)) _ (List.length_set ..)) _ (List.length_set ..)) _ (List.length_set ..)) _ (List.length_set ..)) _ (List.length_set ..)) _ (List.length_set ..)) _ (List.length_set ..)) _ (List.length_set ..)) _ (List.length_set ..)) _ (List.length_set ..)) _ (List.length_set ..)) _ (List.length_set ..)) _ (List.length_set ..)) _ (List.length_set ..)) _ (List.length_set ..)) _ (List.length_set ..)) _ (List.length_set ..)) _ (List.length_set ..)) _ (List.length_set ..)) _ (List.length_set ..)) _ (List.length_set ..)) _ (List.length_set ..)) _ (List.length_set ..)) _ (List.length_set ..)) _ (List.length_set ..)) _ (List.length_set ..)) _ (List.length_set ..)) _ (List.length_set ..)) _ (List.length_set ..)) _ (List.length_set ..)) _ (List.length_set ..)) _ (List.length_set ..)) _ (List.length_set ..)) _ (List.length_set ..)) _ (List.length_set ..)) _ (List.length_set ..)) _ (List.length_set ..)) _ (List.length_set ..)) _ (List.length_set ..))
                  case h4 => exact rfl
          ·
            rcases ia_cut (c := 25) hlc hhc with ⟨hlc, hhc⟩ | ⟨hlc, hhc⟩
            ·
              rcases ia_cut (c := 0) hlc hhc with ⟨hlc, hhc⟩ | ⟨hlc, hhc⟩
              ·
                apply p1_intro (v := (-1000000014))
                case h1 =>
                  apply ex_X8_sheet
                  refine rn_step rfl ?_
                  refine rb_iload rfl ?_
                  apply rb_callS1
                  case hcl => exact rfl
                  case hc =>
                    apply ex_X8_isSheet
                    refine rn_step rfl ?_
                    refine rb_iload rfl ?_
                    refine rb_push ?_
                    refine rb_push ?_
                    apply rb_callS3
                    case hcl => exact rfl
                    case hc =>
                      apply ex_X8_within
                      refine rn_step rfl ?_
                      refine rb_iload rfl ?_
                      refine rb_iload rfl ?_
                      refine rb_clt (fun h => absurd h (ia_nlt hla (by decide))) (fun _ => ?_)
                      refine rb_iload rfl ?_
                      refine rb_iload rfl ?_
                      refine rb_cgt (fun h => absurd h (ia_ngt hha (by decide))) (fun _ => ?_)
                      refine rb_push ?_
                      refine rb_goto ?_
                      refine rn_step rfl ?_
                      refine rb_ret rfl rfl
                    refine rb_ret rfl rfl
                  refine rb_ieq (fun h => absurd h (by decide)) (fun _ => ?_)
                  refine rb_iload rfl ?_
                  refine rb_push ?_
                  refine rb_push ?_
                  apply rb_callS3
                  case hcl => exact rfl
                  case hc =>
                    apply ex_X8_within
                    refine rn_step rfl ?_
                    refine rb_iload rfl ?_
                    refine rb_iload rfl ?_
                    refine rb_clt (fun h => absurd h (ia_nlt hlb (by decide))) (fun _ => ?_)
                    refine rb_iload rfl ?_
                    refine rb_iload rfl ?_
                    refine rb_cgt (fun h => absurd h (ia_ngt hhb (by decide))) (fun _ => ?_)
                    refine rb_push ?_
                    refine rb_goto ?_
                    refine rn_step rfl ?_
                    refine rb_ret rfl rfl
                  refine rb_ine (fun _ => ?_) (fun h => absurd (by decide) h)
                  refine rn_step rfl ?_
                  refine rb_iload rfl ?_
                  refine rb_push ?_
                  refine rb_cne (fun _ => ?_) (fun h => absurd (ia_neH hlb (by decide)) h)
                  refine rn_step rfl ?_
                  refine rb_iload rfl ?_
                  refine rb_push ?_
                  refine rb_cle (fun _ => ?_) (fun h => absurd (ia_ge (ia_ngt hhc (by decide))) h)
                  refine rn_step rfl ?_
                  refine rb_iload rfl ?_
                  refine rb_ige (fun h => absurd h (ia_nge (ia_lt hhc (by decide)))) (fun _ => ?_)
                  refine rb_push ?_
                  refine rb_ret rfl rfl
                case h2 =>
                  apply ex_X9_sheet
                  refine rn_step rfl ?_
                  refine rb_iload rfl ?_
                  apply rb_callS1
                  case hcl => exact rfl
                  case hc =>
                    apply ex_X9_isSheet
                    refine rn_step rfl ?_
                    refine rb_iload rfl ?_
                    refine rb_push ?_
                    refine rb_push ?_
                    apply rb_callS3
                    case hcl => exact rfl
                    case hc =>
                      apply ex_X9_in
                      refine rn_step rfl ?_
                      refine rb_iload rfl ?_
                      refine rb_iload rfl ?_
                      refine rb_clt (fun h => absurd h (ia_nlt hla (by decide))) (fun _ => ?_)
                      refine rb_iload rfl ?_
                      refine rb_iload rfl ?_
                      refine rb_cgt (fun h => absurd h (ia_ngt hha (by decide))) (fun _ => ?_)
                      refine rb_push ?_
                      refine rb_goto ?_
                      refine rn_step rfl ?_
                      refine rb_ret rfl rfl
                    refine rb_ret rfl rfl
                  refine rb_ieq (fun h => absurd h (by decide)) (fun _ => ?_)
                  refine rb_iload rfl ?_
                  refine rb_push ?_
                  refine rb_push ?_
                  apply rb_callS3
                  case hcl => exact rfl
                  case hc =>
                    apply ex_X9_in
                    refine rn_step rfl ?_
                    refine rb_iload rfl ?_
                    refine rb_iload rfl ?_
                    refine rb_clt (fun h => absurd h (ia_nlt hlb (by decide))) (fun _ => ?_)
                    refine rb_iload rfl ?_
                    refine rb_iload rfl ?_
                    refine rb_cgt (fun h => absurd h (ia_ngt hhb (by decide))) (fun _ => ?_)
                    refine rb_push ?_
                    refine rb_goto ?_
                    refine rn_step rfl ?_
                    refine rb_ret rfl rfl
                  refine rb_ieq (fun h => absurd h (by decide)) (fun _ => ?_)
                  refine rb_iload rfl ?_
                  refine rb_ilt (fun h => absurd h (ia_nlt hlb (by decide))) (fun _ => ?_)
                  refine rb_iload rfl ?_
                  refine rb_push ?_
                  refine rb_cle (fun _ => ?_) (fun h => absurd (ia_ge (ia_ngt hhc (by decide))) h)
                  refine rn_step rfl ?_
                  refine rb_iload rfl ?_
                  refine rb_ilt (fun h => absurd h (ia_nlt hlb (by decide))) (fun _ => ?_)
                  refine rb_iload rfl ?_
                  refine rb_ige (fun h => absurd h (ia_nge (ia_lt hhc (by decide)))) (fun _ => ?_)
                  refine rb_push ?_
                  refine rb_ret rfl rfl
                case h3 => exact s1_ok
                case h4 => exact rfl
              ·
                -- box [(0, 3), (0, 1), (0, 24)]
                have hbox : ∀ n0 : Nat, n0 < 4 → ∀ n1 : Nat, n1 < 2 → ∀ n2 : Nat, n2 < 25 → ck 105 208 [.int (Int32.ofInt (0 + (n0 : Int))), .int (Int32.ofInt (0 + (n1 : Int))), .int (Int32.ofInt (0 + (n2 : Int)))] = true := by decide +kernel
                obtain ⟨n0, hn0, rfl⟩ := ia_box (l := 0) (m := 4) hla hha (by decide) (by decide)
                obtain ⟨n1, hn1, rfl⟩ := ia_box (l := 0) (m := 2) hlb hhb (by decide) (by decide)
                obtain ⟨n2, hn2, rfl⟩ := ia_box (l := 0) (m := 25) hlc hhc (by decide) (by decide)
                exact ck_ok (hbox n0 hn0 n1 hn1 n2 hn2)
            ·
              apply p1_intro (v := (-1000000001))
              case h1 =>
                apply ex_X8_sheet
                refine rn_step rfl ?_
                refine rb_iload rfl ?_
                apply rb_callS1
                case hcl => exact rfl
                case hc =>
                  apply ex_X8_isSheet
                  refine rn_step rfl ?_
                  refine rb_iload rfl ?_
                  refine rb_push ?_
                  refine rb_push ?_
                  apply rb_callS3
                  case hcl => exact rfl
                  case hc =>
                    apply ex_X8_within
                    refine rn_step rfl ?_
                    refine rb_iload rfl ?_
                    refine rb_iload rfl ?_
                    refine rb_clt (fun h => absurd h (ia_nlt hla (by decide))) (fun _ => ?_)
                    refine rb_iload rfl ?_
                    refine rb_iload rfl ?_
                    refine rb_cgt (fun h => absurd h (ia_ngt hha (by decide))) (fun _ => ?_)
                    refine rb_push ?_
                    refine rb_goto ?_
                    refine rn_step rfl ?_
                    refine rb_ret rfl rfl
                  refine rb_ret rfl rfl
                refine rb_ieq (fun h => absurd h (by decide)) (fun _ => ?_)
                refine rb_iload rfl ?_
                refine rb_push ?_
                refine rb_push ?_
                apply rb_callS3
                case hcl => exact rfl
                case hc =>
                  apply ex_X8_within
                  refine rn_step rfl ?_
                  refine rb_iload rfl ?_
                  refine rb_iload rfl ?_
                  refine rb_clt (fun h => absurd h (ia_nlt hlb (by decide))) (fun _ => ?_)
                  refine rb_iload rfl ?_
                  refine rb_iload rfl ?_
                  refine rb_cgt (fun h => absurd h (ia_ngt hhb (by decide))) (fun _ => ?_)
                  refine rb_push ?_
                  refine rb_goto ?_
                  refine rn_step rfl ?_
                  refine rb_ret rfl rfl
                refine rb_ine (fun _ => ?_) (fun h => absurd (by decide) h)
                refine rn_step rfl ?_
                refine rb_iload rfl ?_
                refine rb_push ?_
                refine rb_cne (fun _ => ?_) (fun h => absurd (ia_neH hlb (by decide)) h)
                refine rn_step rfl ?_
                refine rb_iload rfl ?_
                refine rb_push ?_
                refine rb_cle (fun h => absurd h (ia_nge (ia_gt hlc (by decide)))) (fun _ => ?_)
                refine rb_push ?_
                refine rb_ret rfl rfl
              case h2 =>
                apply ex_X9_sheet
                refine rn_step rfl ?_
                refine rb_iload rfl ?_
                apply rb_callS1
                case hcl => exact rfl
                case hc =>
                  apply ex_X9_isSheet
                  refine rn_step rfl ?_
                  refine rb_iload rfl ?_
                  refine rb_push ?_
                  refine rb_push ?_
                  apply rb_callS3
                  case hcl => exact rfl
                  case hc =>
                    apply ex_X9_in
                    refine rn_step rfl ?_
                    refine rb_iload rfl ?_
                    refine rb_iload rfl ?_
                    refine rb_clt (fun h => absurd h (ia_nlt hla (by decide))) (fun _ => ?_)
                    refine rb_iload rfl ?_
                    refine rb_iload rfl ?_
                    refine rb_cgt (fun h => absurd h (ia_ngt hha (by decide))) (fun _ => ?_)
                    refine rb_push ?_
                    refine rb_goto ?_
                    refine rn_step rfl ?_
                    refine rb_ret rfl rfl
                  refine rb_ret rfl rfl
                refine rb_ieq (fun h => absurd h (by decide)) (fun _ => ?_)
                refine rb_iload rfl ?_
                refine rb_push ?_
                refine rb_push ?_
                apply rb_callS3
                case hcl => exact rfl
                case hc =>
                  apply ex_X9_in
                  refine rn_step rfl ?_
                  refine rb_iload rfl ?_
                  refine rb_iload rfl ?_
                  refine rb_clt (fun h => absurd h (ia_nlt hlb (by decide))) (fun _ => ?_)
                  refine rb_iload rfl ?_
                  refine rb_iload rfl ?_
                  refine rb_cgt (fun h => absurd h (ia_ngt hhb (by decide))) (fun _ => ?_)
                  refine rb_push ?_
                  refine rb_goto ?_
                  refine rn_step rfl ?_
                  refine rb_ret rfl rfl
                refine rb_ieq (fun h => absurd h (by decide)) (fun _ => ?_)
                refine rb_iload rfl ?_
                refine rb_ilt (fun h => absurd h (ia_nlt hlb (by decide))) (fun _ => ?_)
                refine rb_iload rfl ?_
                refine rb_push ?_
                refine rb_cle (fun h => absurd h (ia_nge (ia_gt hlc (by decide)))) (fun _ => ?_)
                refine rb_goto ?_
                refine rn_step rfl ?_
                refine rb_push ?_
                refine rb_ret rfl rfl
              case h3 => exact s1_ok
              case h4 => exact rfl
        ·
          apply p1_intro (v := (-1000000001))
          case h1 =>
            apply ex_X8_sheet
            refine rn_step rfl ?_
            refine rb_iload rfl ?_
            apply rb_callS1
            case hcl => exact rfl
            case hc =>
              apply ex_X8_isSheet
              refine rn_step rfl ?_
              refine rb_iload rfl ?_
              refine rb_push ?_
              refine rb_push ?_
              apply rb_callS3
              case hcl => exact rfl
              case hc =>
                apply ex_X8_within
                refine rn_step rfl ?_
                refine rb_iload rfl ?_
                refine rb_iload rfl ?_
                refine rb_clt (fun h => absurd h (ia_nlt hla (by decide))) (fun _ => ?_)
                refine rb_iload rfl ?_
                refine rb_iload rfl ?_
                refine rb_cgt (fun h => absurd h (ia_ngt hha (by decide))) (fun _ => ?_)
                refine rb_push ?_
                refine rb_goto ?_
                refine rn_step rfl ?_
                refine rb_ret rfl rfl
              refine rb_ret rfl rfl
            refine rb_ieq (fun h => absurd h (by decide)) (fun _ => ?_)
            refine rb_iload rfl ?_
            refine rb_push ?_
            refine rb_push ?_
            apply rb_callS3
            case hcl => exact rfl
            case hc =>
              apply ex_X8_within
              refine rn_step rfl ?_
              refine rb_iload rfl ?_
              refine rb_iload rfl ?_
              refine rb_clt (fun h => absurd h (ia_nlt hlb (by decide))) (fun _ => ?_)
              refine rb_iload rfl ?_
              refine rb_iload rfl ?_
              refine rb_cgt (fun _ => ?_) (fun h => absurd (ia_gt hlb (by decide)) h)
              refine rn_step rfl ?_
              refine rb_push ?_
              refine rb_goto ?_
              refine rn_step rfl ?_
              refine rb_ret rfl rfl
            refine rb_ine (fun h => absurd (by decide) h) (fun _ => ?_)
            refine rb_goto ?_
            refine rn_step rfl ?_
            refine rb_push ?_
            refine rb_ret rfl rfl
          case h2 =>
            apply ex_X9_sheet
            refine rn_step rfl ?_
            refine rb_iload rfl ?_
            apply rb_callS1
            case hcl => exact rfl
            case hc =>
              apply ex_X9_isSheet
              refine rn_step rfl ?_
              refine rb_iload rfl ?_
              refine rb_push ?_
              refine rb_push ?_
              apply rb_callS3
              case hcl => exact rfl
              case hc =>
                apply ex_X9_in
                refine rn_step rfl ?_
                refine rb_iload rfl ?_
                refine rb_iload rfl ?_
                refine rb_clt (fun h => absurd h (ia_nlt hla (by decide))) (fun _ => ?_)
                refine rb_iload rfl ?_
                refine rb_iload rfl ?_
                refine rb_cgt (fun h => absurd h (ia_ngt hha (by decide))) (fun _ => ?_)
                refine rb_push ?_
                refine rb_goto ?_
                refine rn_step rfl ?_
                refine rb_ret rfl rfl
              refine rb_ret rfl rfl
            refine rb_ieq (fun h => absurd h (by decide)) (fun _ => ?_)
            refine rb_iload rfl ?_
            refine rb_push ?_
            refine rb_push ?_
            apply rb_callS3
            case hcl => exact rfl
            case hc =>
              apply ex_X9_in
              refine rn_step rfl ?_
              refine rb_iload rfl ?_
              refine rb_iload rfl ?_
              refine rb_clt (fun h => absurd h (ia_nlt hlb (by decide))) (fun _ => ?_)
              refine rb_iload rfl ?_
              refine rb_iload rfl ?_
              refine rb_cgt (fun _ => ?_) (fun h => absurd (ia_gt hlb (by decide)) h)
              refine rn_step rfl ?_
              refine rb_push ?_
              refine rb_goto ?_
              refine rn_step rfl ?_
              refine rb_ret rfl rfl
            refine rb_ieq (fun _ => ?_) (fun h => absurd (by decide) h)
            refine rn_step rfl ?_
            refine rb_push ?_
            refine rb_ret rfl rfl
          case h3 => exact s1_ok
          case h4 => exact rfl
    ·
      apply p1_intro (v := (-1000000001))
      case h1 =>
        apply ex_X8_sheet
        refine rn_step rfl ?_
        refine rb_iload rfl ?_
        apply rb_callS1
        case hcl => exact rfl
        case hc =>
          apply ex_X8_isSheet
          refine rn_step rfl ?_
          refine rb_iload rfl ?_
          refine rb_push ?_
          refine rb_push ?_
          apply rb_callS3
          case hcl => exact rfl
          case hc =>
            apply ex_X8_within
            refine rn_step rfl ?_
            refine rb_iload rfl ?_
            refine rb_iload rfl ?_
            refine rb_clt (fun h => absurd h (ia_nlt hla (by decide))) (fun _ => ?_)
            refine rb_iload rfl ?_
            refine rb_iload rfl ?_
            refine rb_cgt (fun _ => ?_) (fun h => absurd (ia_gt hla (by decide)) h)
            refine rn_step rfl ?_
            refine rb_push ?_
            refine rb_goto ?_
            refine rn_step rfl ?_
            refine rb_ret rfl rfl
          refine rb_ret rfl rfl
        refine rb_ieq (fun _ => ?_) (fun h => absurd (by decide) h)
        refine rn_step rfl ?_
        refine rb_push ?_
        refine rb_ret rfl rfl
      case h2 =>
        apply ex_X9_sheet
        refine rn_step rfl ?_
        refine rb_iload rfl ?_
        apply rb_callS1
        case hcl => exact rfl
        case hc =>
          apply ex_X9_isSheet
          refine rn_step rfl ?_
          refine rb_iload rfl ?_
          refine rb_push ?_
          refine rb_push ?_
          apply rb_callS3
          case hcl => exact rfl
          case hc =>
            apply ex_X9_in
            refine rn_step rfl ?_
            refine rb_iload rfl ?_
            refine rb_iload rfl ?_
            refine rb_clt (fun h => absurd h (ia_nlt hla (by decide))) (fun _ => ?_)
            refine rb_iload rfl ?_
            refine rb_iload rfl ?_
            refine rb_cgt (fun _ => ?_) (fun h => absurd (ia_gt hla (by decide)) h)
            refine rn_step rfl ?_
            refine rb_push ?_
            refine rb_goto ?_
            refine rn_step rfl ?_
            refine rb_ret rfl rfl
          refine rb_ret rfl rfl
        refine rb_ieq (fun _ => ?_) (fun h => absurd (by decide) h)
        refine rn_step rfl ?_
        refine rb_push ?_
        refine rb_ret rfl rfl
      case h3 => exact s1_ok
      case h4 => exact rfl
