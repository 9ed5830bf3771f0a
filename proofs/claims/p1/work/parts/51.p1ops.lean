set_option maxRecDepth 1000000 in
set_option maxHeartbeats 40000000 in
theorem p1_stone (a b c : Int32) : P1 75 138 [.int a, .int b, .int c] := by
  have hla : -2147483648 ≤ a.toInt := ia_lo a
  have hha : a.toInt ≤ 2147483647 := ia_hi a
  have hlb : -2147483648 ≤ b.toInt := ia_lo b
  have hhb : b.toInt ≤ 2147483647 := ia_hi b
  have hlc : -2147483648 ≤ c.toInt := ia_lo c
  have hhc : c.toInt ≤ 2147483647 := ia_hi c
  rcases ia_cut (c := 0) hla hha with ⟨hla, hha⟩ | ⟨hla, hha⟩
  ·
    apply p1_intro (v := (-1000000001))
    case h1 =>
      apply ex_X8_stone
      refine rn_step rfl ?_
      refine rb_iload rfl ?_
      refine rb_push ?_
      refine rb_push ?_
      apply rb_callS3
      case hcl => exact rfl
      case hc =>
        apply ex_X8_within
        refine rn_step rfl ?_
        refine rb_iload rfl ?_
        refine rb_iload rfl ?_
        refine rb_clt (fun _ => ?_) (fun h => absurd (ia_lt hha (by decide)) h)
        refine rn_step rfl ?_
        refine rb_push ?_
        refine rb_goto ?_
        refine rn_step rfl ?_
        refine rb_ret rfl rfl
      refine rb_ieq (fun _ => ?_) (fun h => absurd (by decide) h)
      refine rn_step rfl ?_
      refine rb_push ?_
      refine rb_ret rfl rfl
    case h2 =>
      apply ex_X9_stone
      refine rn_step rfl ?_
      refine rb_iload rfl ?_
      refine rb_push ?_
      refine rb_push ?_
      apply rb_callS3
      case hcl => exact rfl
      case hc =>
        apply ex_X9_in
        refine rn_step rfl ?_
        refine rb_iload rfl ?_
        refine rb_iload rfl ?_
        refine rb_clt (fun _ => ?_) (fun h => absurd (ia_lt hha (by decide)) h)
        refine rn_step rfl ?_
        refine rb_push ?_
        refine rb_goto ?_
        refine rn_step rfl ?_
        refine rb_ret rfl rfl
      refine rb_ieq (fun _ => ?_) (fun h => absurd (by decide) h)
      refine rn_step rfl ?_
      refine rb_push ?_
      refine rb_ret rfl rfl
    case h3 => exact s1_ok
    case h4 => exact rfl
  ·
    rcases ia_cut (c := 6) hla hha with ⟨hla, hha⟩ | ⟨hla, hha⟩
    ·
      rcases ia_cut (c := 0) hlb hhb with ⟨hlb, hhb⟩ | ⟨hlb, hhb⟩
      ·
        apply p1_intro (v := (-1000000001))
        case h1 =>
          apply ex_X8_stone
          refine rn_step rfl ?_
          refine rb_iload rfl ?_
          refine rb_push ?_
          refine rb_push ?_
          apply rb_callS3
          case hcl => exact rfl
          case hc =>
            apply ex_X8_within
            refine rn_step rfl ?_
            refine rb_iload rfl ?_
            refine rb_iload rfl ?_
            refine rb_clt (fun h => absurd h (ia_nlt hla (by decide))) (fun _ => ?_)
            refine rb_iload rfl ?_
            refine rb_iload rfl ?_
            refine rb_cgt (fun h => absurd h (ia_ngt hha (by decide))) (fun _ => ?_)
            refine rb_push ?_
            refine rb_goto ?_
            refine rn_step rfl ?_
            refine rb_ret rfl rfl
          refine rb_ieq (fun h => absurd h (by decide)) (fun _ => ?_)
          refine rb_iload rfl ?_
          refine rb_push ?_
          refine rb_push ?_
          apply rb_callS3
          case hcl => exact rfl
          case hc =>
            apply ex_X8_within
            refine rn_step rfl ?_
            refine rb_iload rfl ?_
            refine rb_iload rfl ?_
            refine rb_clt (fun _ => ?_) (fun h => absurd (ia_lt hhb (by decide)) h)
            refine rn_step rfl ?_
            refine rb_push ?_
            refine rb_goto ?_
            refine rn_step rfl ?_
            refine rb_ret rfl rfl
          refine rb_ieq (fun _ => ?_) (fun h => absurd (by decide) h)
          refine rn_step rfl ?_
          refine rb_push ?_
          refine rb_ret rfl rfl
        case h2 =>
          apply ex_X9_stone
          refine rn_step rfl ?_
          refine rb_iload rfl ?_
          refine rb_push ?_
          refine rb_push ?_
          apply rb_callS3
          case hcl => exact rfl
          case hc =>
            apply ex_X9_in
            refine rn_step rfl ?_
            refine rb_iload rfl ?_
            refine rb_iload rfl ?_
            refine rb_clt (fun h => absurd h (ia_nlt hla (by decide))) (fun _ => ?_)
            refine rb_iload rfl ?_
            refine rb_iload rfl ?_
            refine rb_cgt (fun h => absurd h (ia_ngt hha (by decide))) (fun _ => ?_)
            refine rb_push ?_
            refine rb_goto ?_
            refine rn_step rfl ?_
            refine rb_ret rfl rfl
          refine rb_ieq (fun h => absurd h (by decide)) (fun _ => ?_)
          refine rb_iload rfl ?_
          refine rb_push ?_
          refine rb_push ?_
          apply rb_callS3
          case hcl => exact rfl
          case hc =>
            apply ex_X9_in
            refine rn_step rfl ?_
            refine rb_iload rfl ?_
            refine rb_iload rfl ?_
            refine rb_clt (fun _ => ?_) (fun h => absurd (ia_lt hhb (by decide)) h)
            refine rn_step rfl ?_
            refine rb_push ?_
            refine rb_goto ?_
            refine rn_step rfl ?_
            refine rb_ret rfl rfl
          refine rb_ieq (fun _ => ?_) (fun h => absurd (by decide) h)
          refine rn_step rfl ?_
          refine rb_push ?_
          refine rb_ret rfl rfl
        case h3 => exact s1_ok
        case h4 => exact rfl
      ·
        rcases ia_cut (c := 7) hlb hhb with ⟨hlb, hhb⟩ | ⟨hlb, hhb⟩
        ·
          rcases ia_cut (c := 0) hlc hhc with ⟨hlc, hhc⟩ | ⟨hlc, hhc⟩
          ·
            apply p1_intro (v := (-1000000001))
            case h1 =>
              apply ex_X8_stone
              refine rn_step rfl ?_
              refine rb_iload rfl ?_
              refine rb_push ?_
              refine rb_push ?_
              apply rb_callS3
              case hcl => exact rfl
              case hc =>
                apply ex_X8_within
                refine rn_step rfl ?_
                refine rb_iload rfl ?_
                refine rb_iload rfl ?_
                refine rb_clt (fun h => absurd h (ia_nlt hla (by decide))) (fun _ => ?_)
                refine rb_iload rfl ?_
                refine rb_iload rfl ?_
                refine rb_cgt (fun h => absurd h (ia_ngt hha (by decide))) (fun _ => ?_)
                refine rb_push ?_
                refine rb_goto ?_
                refine rn_step rfl ?_
                refine rb_ret rfl rfl
              refine rb_ieq (fun h => absurd h (by decide)) (fun _ => ?_)
              refine rb_iload rfl ?_
              refine rb_push ?_
              refine rb_push ?_
              apply rb_callS3
              case hcl => exact rfl
              case hc =>
                apply ex_X8_within
                refine rn_step rfl ?_
                refine rb_iload rfl ?_
                refine rb_iload rfl ?_
                refine rb_clt (fun h => absurd h (ia_nlt hlb (by decide))) (fun _ => ?_)
                refine rb_iload rfl ?_
                refine rb_iload rfl ?_
                refine rb_cgt (fun h => absurd h (ia_ngt hhb (by decide))) (fun _ => ?_)
                refine rb_push ?_
                refine rb_goto ?_
                refine rn_step rfl ?_
                refine rb_ret rfl rfl
              refine rb_ieq (fun h => absurd h (by decide)) (fun _ => ?_)
              refine rb_iload rfl ?_
              refine rb_push ?_
              refine rb_push ?_
              apply rb_callS3
              case hcl => exact rfl
              case hc =>
                apply ex_X8_within
                refine rn_step rfl ?_
                refine rb_iload rfl ?_
                refine rb_iload rfl ?_
                refine rb_clt (fun _ => ?_) (fun h => absurd (ia_lt hhc (by decide)) h)
                refine rn_step rfl ?_
                refine rb_push ?_
                refine rb_goto ?_
                refine rn_step rfl ?_
                refine rb_ret rfl rfl
              refine rb_ine (fun h => absurd (by decide) h) (fun _ => ?_)
              refine rb_goto ?_
              refine rn_step rfl ?_
              refine rb_push ?_
              refine rb_ret rfl rfl
            case h2 =>
              apply ex_X9_stone
              refine rn_step rfl ?_
              refine rb_iload rfl ?_
              refine rb_push ?_
              refine rb_push ?_
              apply rb_callS3
              case hcl => exact rfl
              case hc =>
                apply ex_X9_in
                refine rn_step rfl ?_
                refine rb_iload rfl ?_
                refine rb_iload rfl ?_
                refine rb_clt (fun h => absurd h (ia_nlt hla (by decide))) (fun _ => ?_)
                refine rb_iload rfl ?_
                refine rb_iload rfl ?_
                refine rb_cgt (fun h => absurd h (ia_ngt hha (by decide))) (fun _ => ?_)
                refine rb_push ?_
                refine rb_goto ?_
                refine rn_step rfl ?_
                refine rb_ret rfl rfl
              refine rb_ieq (fun h => absurd h (by decide)) (fun _ => ?_)
              refine rb_iload rfl ?_
              refine rb_push ?_
              refine rb_push ?_
              apply rb_callS3
              case hcl => exact rfl
              case hc =>
                apply ex_X9_in
                refine rn_step rfl ?_
                refine rb_iload rfl ?_
                refine rb_iload rfl ?_
                refine rb_clt (fun h => absurd h (ia_nlt hlb (by decide))) (fun _ => ?_)
                refine rb_iload rfl ?_
                refine rb_iload rfl ?_
                refine rb_cgt (fun h => absurd h (ia_ngt hhb (by decide))) (fun _ => ?_)
                refine rb_push ?_
                refine rb_goto ?_
                refine rn_step rfl ?_
                refine rb_ret rfl rfl
              refine rb_ieq (fun h => absurd h (by decide)) (fun _ => ?_)
              refine rb_iload rfl ?_
              refine rb_push ?_
              refine rb_push ?_
              apply rb_callS3
              case hcl => exact rfl
              case hc =>
                apply ex_X9_in
                refine rn_step rfl ?_
                refine rb_iload rfl ?_
                refine rb_iload rfl ?_
                refine rb_clt (fun _ => ?_) (fun h => absurd (ia_lt hhc (by decide)) h)
                refine rn_step rfl ?_
                refine rb_push ?_
                refine rb_goto ?_
                refine rn_step rfl ?_
                refine rb_ret rfl rfl
              refine rb_ine (fun h => absurd (by decide) h) (fun _ => ?_)
              refine rb_goto ?_
              refine rn_step rfl ?_
              refine rb_push ?_
              refine rb_ret rfl rfl
            case h3 => exact s1_ok
            case h4 => exact rfl
          ·
            rcases ia_cut (c := 7) hlc hhc with ⟨hlc, hhc⟩ | ⟨hlc, hhc⟩
            ·
              rcases ia_cut (c := 1) hla hha with ⟨hla, hha⟩ | ⟨hla, hha⟩
              ·
                obtain rfl : a = 0 := ia_one hla hha (by decide) (by decide)
                -- box [(0, 0), (0, 6), (0, 6)]
                have hbox : ∀ n1 : Nat, n1 < 7 → ∀ n2 : Nat, n2 < 7 → ck 75 138 [.int 0, .int (Int32.ofInt (0 + (n1 : Int))), .int (Int32.ofInt (0 + (n2 : Int)))] = true := by decide +kernel
                obtain ⟨n1, hn1, rfl⟩ := ia_box (l := 0) (m := 7) hlb hhb (by decide) (by decide)
                obtain ⟨n2, hn2, rfl⟩ := ia_box (l := 0) (m := 7) hlc hhc (by decide) (by decide)
                exact ck_ok (hbox n1 hn1 n2 hn2)
              ·
                -- box [(1, 5), (0, 6), (0, 6)]
                have hbox : ∀ n0 : Nat, n0 < 5 → ∀ n1 : Nat, n1 < 7 → ∀ n2 : Nat, n2 < 7 → ck 75 138 [.int (Int32.ofInt (1 + (n0 : Int))), .int (Int32.ofInt (0 + (n1 : Int))), .int (Int32.ofInt (0 + (n2 : Int)))] = true := by decide +kernel
                obtain ⟨n0, hn0, rfl⟩ := ia_box (l := 1) (m := 5) hla hha (by decide) (by decide)
                obtain ⟨n1, hn1, rfl⟩ := ia_box (l := 0) (m := 7) hlb hhb (by decide) (by decide)
                obtain ⟨n2, hn2, rfl⟩ := ia_box (l := 0) (m := 7) hlc hhc (by decide) (by decide)
                exact ck_ok (hbox n0 hn0 n1 hn1 n2 hn2)
            ·
              apply p1_intro (v := (-1000000001))
              case h1 =>
                apply ex_X8_stone
                refine rn_step rfl ?_
                refine rb_iload rfl ?_
                refine rb_push ?_
                refine rb_push ?_
                apply rb_callS3
                case hcl => exact rfl
                case hc =>
                  apply ex_X8_within
                  refine rn_step rfl ?_
                  refine rb_iload rfl ?_
                  refine rb_iload rfl ?_
                  refine rb_clt (fun h => absurd h (ia_nlt hla (by decide))) (fun _ => ?_)
                  refine rb_iload rfl ?_
                  refine rb_iload rfl ?_
                  refine rb_cgt (fun h => absurd h (ia_ngt hha (by decide))) (fun _ => ?_)
                  refine rb_push ?_
                  refine rb_goto ?_
                  refine rn_step rfl ?_
                  refine rb_ret rfl rfl
                refine rb_ieq (fun h => absurd h (by decide)) (fun _ => ?_)
                refine rb_iload rfl ?_
                refine rb_push ?_
                refine rb_push ?_
                apply rb_callS3
                case hcl => exact rfl
                case hc =>
                  apply ex_X8_within
                  refine rn_step rfl ?_
                  refine rb_iload rfl ?_
                  refine rb_iload rfl ?_
                  refine rb_clt (fun h => absurd h (ia_nlt hlb (by decide))) (fun _ => ?_)
                  refine rb_iload rfl ?_
                  refine rb_iload rfl ?_
                  refine rb_cgt (fun h => absurd h (ia_ngt hhb (by decide))) (fun _ => ?_)
                  refine rb_push ?_
                  refine rb_goto ?_
                  refine rn_step rfl ?_
                  refine rb_ret rfl rfl
                refine rb_ieq (fun h => absurd h (by decide)) (fun _ => ?_)
                refine rb_iload rfl ?_
                refine rb_push ?_
                refine rb_push ?_
                apply rb_callS3
                case hcl => exact rfl
                case hc =>
                  apply ex_X8_within
                  refine rn_step rfl ?_
                  refine rb_iload rfl ?_
                  refine rb_iload rfl ?_
                  refine rb_clt (fun h => absurd h (ia_nlt hlc (by decide))) (fun _ => ?_)
                  refine rb_iload rfl ?_
                  refine rb_iload rfl ?_
                  refine rb_cgt (fun _ => ?_) (fun h => absurd (ia_gt hlc (by decide)) h)
                  refine rn_step rfl ?_
                  refine rb_push ?_
                  refine rb_goto ?_
                  refine rn_step rfl ?_
                  refine rb_ret rfl rfl
                refine rb_ine (fun h => absurd (by decide) h) (fun _ => ?_)
                refine rb_goto ?_
                refine rn_step rfl ?_
                refine rb_push ?_
                refine rb_ret rfl rfl
              case h2 =>
                apply ex_X9_stone
                refine rn_step rfl ?_
                refine rb_iload rfl ?_
                refine rb_push ?_
                refine rb_push ?_
                apply rb_callS3
                case hcl => exact rfl
                case hc =>
                  apply ex_X9_in
                  refine rn_step rfl ?_
                  refine rb_iload rfl ?_
                  refine rb_iload rfl ?_
                  refine rb_clt (fun h => absurd h (ia_nlt hla (by decide))) (fun _ => ?_)
                  refine rb_iload rfl ?_
                  refine rb_iload rfl ?_
                  refine rb_cgt (fun h => absurd h (ia_ngt hha (by decide))) (fun _ => ?_)
                  refine rb_push ?_
                  refine rb_goto ?_
                  refine rn_step rfl ?_
                  refine rb_ret rfl rfl
                refine rb_ieq (fun h => absurd h (by decide)) (fun _ => ?_)
                refine rb_iload rfl ?_
                refine rb_push ?_
                refine rb_push ?_
                apply rb_callS3
                case hcl => exact rfl
                case hc =>
                  apply ex_X9_in
                  refine rn_step rfl ?_
                  refine rb_iload rfl ?_
                  refine rb_iload rfl ?_
                  refine rb_clt (fun h => absurd h (ia_nlt hlb (by decide))) (fun _ => ?_)
                  refine rb_iload rfl ?_
                  refine rb_iload rfl ?_
                  refine rb_cgt (fun h => absurd h (ia_ngt hhb (by decide))) (fun _ => ?_)
                  refine rb_push ?_
                  refine rb_goto ?_
                  refine rn_step rfl ?_
                  refine rb_ret rfl rfl
                refine rb_ieq (fun h => absurd h (by decide)) (fun _ => ?_)
                refine rb_iload rfl ?_
                refine rb_push ?_
                refine rb_push ?_
                apply rb_callS3
                case hcl => exact rfl
                case hc =>
                  apply ex_X9_in
                  refine rn_step rfl ?_
                  refine rb_iload rfl ?_
                  refine rb_iload rfl ?_
                  refine rb_clt (fun h => absurd h (ia_nlt hlc (by decide))) (fun _ => ?_)
                  refine rb_iload rfl ?_
                  refine rb_iload rfl ?_
                  refine rb_cgt (fun _ => ?_) (fun h => absurd (ia_gt hlc (by decide)) h)
                  refine rn_step rfl ?_
                  refine rb_push ?_
                  refine rb_goto ?_
                  refine rn_step rfl ?_
                  refine rb_ret rfl rfl
                refine rb_ine (fun h => absurd (by decide) h) (fun _ => ?_)
                refine rb_goto ?_
                refine rn_step rfl ?_
                refine rb_push ?_
                refine rb_ret rfl rfl
              case h3 => exact s1_ok
              case h4 => exact rfl
        ·
          apply p1_intro (v := (-1000000001))
          case h1 =>
            apply ex_X8_stone
            refine rn_step rfl ?_
            refine rb_iload rfl ?_
            refine rb_push ?_
            refine rb_push ?_
            apply rb_callS3
            case hcl => exact rfl
            case hc =>
              apply ex_X8_within
              refine rn_step rfl ?_
              refine rb_iload rfl ?_
              refine rb_iload rfl ?_
              refine rb_clt (fun h => absurd h (ia_nlt hla (by decide))) (fun _ => ?_)
              refine rb_iload rfl ?_
              refine rb_iload rfl ?_
              refine rb_cgt (fun h => absurd h (ia_ngt hha (by decide))) (fun _ => ?_)
              refine rb_push ?_
              refine rb_goto ?_
              refine rn_step rfl ?_
              refine rb_ret rfl rfl
            refine rb_ieq (fun h => absurd h (by decide)) (fun _ => ?_)
            refine rb_iload rfl ?_
            refine rb_push ?_
            refine rb_push ?_
            apply rb_callS3
            case hcl => exact rfl
            case hc =>
              apply ex_X8_within
              refine rn_step rfl ?_
              refine rb_iload rfl ?_
              refine rb_iload rfl ?_
              refine rb_clt (fun h => absurd h (ia_nlt hlb (by decide))) (fun _ => ?_)
              refine rb_iload rfl ?_
              refine rb_iload rfl ?_
              refine rb_cgt (fun _ => ?_) (fun h => absurd (ia_gt hlb (by decide)) h)
              refine rn_step rfl ?_
              refine rb_push ?_
              refine rb_goto ?_
              refine rn_step rfl ?_
              refine rb_ret rfl rfl
            refine rb_ieq (fun _ => ?_) (fun h => absurd (by decide) h)
            refine rn_step rfl ?_
            refine rb_push ?_
            refine rb_ret rfl rfl
          case h2 =>
            apply ex_X9_stone
            refine rn_step rfl ?_
            refine rb_iload rfl ?_
            refine rb_push ?_
            refine rb_push ?_
            apply rb_callS3
            case hcl => exact rfl
            case hc =>
              apply ex_X9_in
              refine rn_step rfl ?_
              refine rb_iload rfl ?_
              refine rb_iload rfl ?_
              refine rb_clt (fun h => absurd h (ia_nlt hla (by decide))) (fun _ => ?_)
              refine rb_iload rfl ?_
              refine rb_iload rfl ?_
              refine rb_cgt (fun h => absurd h (ia_ngt hha (by decide))) (fun _ => ?_)
              refine rb_push ?_
              refine rb_goto ?_
              refine rn_step rfl ?_
              refine rb_ret rfl rfl
            refine rb_ieq (fun h => absurd h (by decide)) (fun _ => ?_)
            refine rb_iload rfl ?_
            refine rb_push ?_
            refine rb_push ?_
            apply rb_callS3
            case hcl => exact rfl
            case hc =>
              apply ex_X9_in
              refine rn_step rfl ?_
              refine rb_iload rfl ?_
              refine rb_iload rfl ?_
              refine rb_clt (fun h => absurd h (ia_nlt hlb (by decide))) (fun _ => ?_)
              refine rb_iload rfl ?_
              refine rb_iload rfl ?_
              refine rb_cgt (fun _ => ?_) (fun h => absurd (ia_gt hlb (by decide)) h)
              refine rn_step rfl ?_
              refine rb_push ?_
              refine rb_goto ?_
              refine rn_step rfl ?_
              refine rb_ret rfl rfl
            refine rb_ieq (fun _ => ?_) (fun h => absurd (by decide) h)
            refine rn_step rfl ?_
            refine rb_push ?_
            refine rb_ret rfl rfl
          case h3 => exact s1_ok
          case h4 => exact rfl
    ·
      apply p1_intro (v := (-1000000001))
      case h1 =>
        apply ex_X8_stone
        refine rn_step rfl ?_
        refine rb_iload rfl ?_
        refine rb_push ?_
        refine rb_push ?_
        apply rb_callS3
        case hcl => exact rfl
        case hc =>
          apply ex_X8_within
          refine rn_step rfl ?_
          refine rb_iload rfl ?_
          refine rb_iload rfl ?_
          refine rb_clt (fun h => absurd h (ia_nlt hla (by decide))) (fun _ => ?_)
          refine rb_iload rfl ?_
          refine rb_iload rfl ?_
          refine rb_cgt (fun _ => ?_) (fun h => absurd (ia_gt hla (by decide)) h)
          refine rn_step rfl ?_
          refine rb_push ?_
          refine rb_goto ?_
          refine rn_step rfl ?_
          refine rb_ret rfl rfl
        refine rb_ieq (fun _ => ?_) (fun h => absurd (by decide) h)
        refine rn_step rfl ?_
        refine rb_push ?_
        refine rb_ret rfl rfl
      case h2 =>
        apply ex_X9_stone
        refine rn_step rfl ?_
        refine rb_iload rfl ?_
        refine rb_push ?_
        refine rb_push ?_
        apply rb_callS3
        case hcl => exact rfl
        case hc =>
          apply ex_X9_in
          refine rn_step rfl ?_
          refine rb_iload rfl ?_
          refine rb_iload rfl ?_
          refine rb_clt (fun h => absurd h (ia_nlt hla (by decide))) (fun _ => ?_)
          refine rb_iload rfl ?_
          refine rb_iload rfl ?_
          refine rb_cgt (fun _ => ?_) (fun h => absurd (ia_gt hla (by decide)) h)
          refine rn_step rfl ?_
          refine rb_push ?_
          refine rb_goto ?_
          refine rn_step rfl ?_
          refine rb_ret rfl rfl
        refine rb_ieq (fun _ => ?_) (fun h => absurd (by decide) h)
        refine rn_step rfl ?_
        refine rb_push ?_
        refine rb_ret rfl rfl
      case h3 => exact s1_ok
      case h4 => exact rfl
set_option maxRecDepth 1000000 in
set_option maxHeartbeats 40000000 in
theorem p1_want (a b : Int32) : P1 82 152 [.int a, .int b] := by
  have hla : -2147483648 ≤ a.toInt := ia_lo a
  have hha : a.toInt ≤ 2147483647 := ia_hi a
  have hlb : -2147483648 ≤ b.toInt := ia_lo b
  have hhb : b.toInt ≤ 2147483647 := ia_hi b
  rcases ia_cut (c := 0) hla hha with ⟨hla, hha⟩ | ⟨hla, hha⟩
  ·
    apply p1_intro (v := (-1000000001))
    case h1 =>
      apply ex_X8_want
      refine rn_step rfl ?_
      refine rb_iload rfl ?_
      refine rb_push ?_
      refine rb_push ?_
      apply rb_callS3
      case hcl => exact rfl
      case hc =>
        apply ex_X8_within
        refine rn_step rfl ?_
        refine rb_iload rfl ?_
        refine rb_iload rfl ?_
        refine rb_clt (fun _ => ?_) (fun h => absurd (ia_lt hha (by decide)) h)
        refine rn_step rfl ?_
        refine rb_push ?_
        refine rb_goto ?_
        refine rn_step rfl ?_
        refine rb_ret rfl rfl
      refine rb_ieq (fun _ => ?_) (fun h => absurd (by decide) h)
      refine rn_step rfl ?_
      refine rb_push ?_
      refine rb_ret rfl rfl
    case h2 =>
      apply ex_X9_want
      refine rn_step rfl ?_
      refine rb_iload rfl ?_
      refine rb_push ?_
      refine rb_push ?_
      apply rb_callS3
      case hcl => exact rfl
      case hc =>
        apply ex_X9_in
        refine rn_step rfl ?_
        refine rb_iload rfl ?_
        refine rb_iload rfl ?_
        refine rb_clt (fun _ => ?_) (fun h => absurd (ia_lt hha (by decide)) h)
        refine rn_step rfl ?_
        refine rb_push ?_
        refine rb_goto ?_
        refine rn_step rfl ?_
        refine rb_ret rfl rfl
      refine rb_ieq (fun _ => ?_) (fun h => absurd (by decide) h)
      refine rn_step rfl ?_
      refine rb_push ?_
      refine rb_goto ?_
      refine rn_step rfl ?_
      refine rb_ret rfl rfl
    case h3 => exact s1_ok
    case h4 => exact rfl
  ·
    rcases ia_cut (c := 24) hla hha with ⟨hla, hha⟩ | ⟨hla, hha⟩
    ·
      rcases ia_cut (c := 0) hlb hhb with ⟨hlb, hhb⟩ | ⟨hlb, hhb⟩
      ·
        apply p1_intro (v := (-1000000001))
        case h1 =>
          apply ex_X8_want
          refine rn_step rfl ?_
          refine rb_iload rfl ?_
          refine rb_push ?_
          refine rb_push ?_
          apply rb_callS3
          case hcl => exact rfl
          case hc =>
            apply ex_X8_within
            refine rn_step rfl ?_
            refine rb_iload rfl ?_
            refine rb_iload rfl ?_
            refine rb_clt (fun h => absurd h (ia_nlt hla (by decide))) (fun _ => ?_)
            refine rb_iload rfl ?_
            refine rb_iload rfl ?_
            refine rb_cgt (fun h => absurd h (ia_ngt hha (by decide))) (fun _ => ?_)
            refine rb_push ?_
            refine rb_goto ?_
            refine rn_step rfl ?_
            refine rb_ret rfl rfl
          refine rb_ieq (fun h => absurd h (by decide)) (fun _ => ?_)
          refine rb_iload rfl ?_
          refine rb_push ?_
          refine rb_push ?_
          apply rb_callS3
          case hcl => exact rfl
          case hc =>
            apply ex_X8_within
            refine rn_step rfl ?_
            refine rb_iload rfl ?_
            refine rb_iload rfl ?_
            refine rb_clt (fun _ => ?_) (fun h => absurd (ia_lt hhb (by decide)) h)
            refine rn_step rfl ?_
            refine rb_push ?_
            refine rb_goto ?_
            refine rn_step rfl ?_
            refine rb_ret rfl rfl
          refine rb_ine (fun h => absurd (by decide) h) (fun _ => ?_)
          refine rb_goto ?_
          refine rn_step rfl ?_
          refine rb_push ?_
          refine rb_ret rfl rfl
        case h2 =>
          apply ex_X9_want
          refine rn_step rfl ?_
          refine rb_iload rfl ?_
          refine rb_push ?_
          refine rb_push ?_
          apply rb_callS3
          case hcl => exact rfl
          case hc =>
            apply ex_X9_in
            refine rn_step rfl ?_
            refine rb_iload rfl ?_
            refine rb_iload rfl ?_
            refine rb_clt (fun h => absurd h (ia_nlt hla (by decide))) (fun _ => ?_)
            refine rb_iload rfl ?_
            refine rb_iload rfl ?_
            refine rb_cgt (fun h => absurd h (ia_ngt hha (by decide))) (fun _ => ?_)
            refine rb_push ?_
            refine rb_goto ?_
            refine rn_step rfl ?_
            refine rb_ret rfl rfl
          refine rb_ieq (fun h => absurd h (by decide)) (fun _ => ?_)
          refine rb_iload rfl ?_
          refine rb_push ?_
          refine rb_push ?_
          apply rb_callS3
          case hcl => exact rfl
          case hc =>
            apply ex_X9_in
            refine rn_step rfl ?_
            refine rb_iload rfl ?_
            refine rb_iload rfl ?_
            refine rb_clt (fun _ => ?_) (fun h => absurd (ia_lt hhb (by decide)) h)
            refine rn_step rfl ?_
            refine rb_push ?_
            refine rb_goto ?_
            refine rn_step rfl ?_
            refine rb_ret rfl rfl
          refine rb_ieq (fun _ => ?_) (fun h => absurd (by decide) h)
          refine rn_step rfl ?_
          refine rb_push ?_
          refine rb_goto ?_
          refine rn_step rfl ?_
          refine rb_ret rfl rfl
        case h3 => exact s1_ok
        case h4 => exact rfl
      ·
        rcases ia_cut (c := 100) hlb hhb with ⟨hlb, hhb⟩ | ⟨hlb, hhb⟩
        ·
          -- box [(0, 23), (0, 99)]
          have hbox : ∀ n0 : Nat, n0 < 24 → ∀ n1 : Nat, n1 < 100 → ck 82 152 [.int (Int32.ofInt (0 + (n0 : Int))), .int (Int32.ofInt (0 + (n1 : Int)))] = true := by decide +kernel
          obtain ⟨n0, hn0, rfl⟩ := ia_box (l := 0) (m := 24) hla hha (by decide) (by decide)
          obtain ⟨n1, hn1, rfl⟩ := ia_box (l := 0) (m := 100) hlb hhb (by decide) (by decide)
          exact ck_ok (hbox n0 hn0 n1 hn1)
        ·
          apply p1_intro (v := (-1000000001))
          case h1 =>
            apply ex_X8_want
            refine rn_step rfl ?_
            refine rb_iload rfl ?_
            refine rb_push ?_
            refine rb_push ?_
            apply rb_callS3
            case hcl => exact rfl
            case hc =>
              apply ex_X8_within
              refine rn_step rfl ?_
              refine rb_iload rfl ?_
              refine rb_iload rfl ?_
              refine rb_clt (fun h => absurd h (ia_nlt hla (by decide))) (fun _ => ?_)
              refine rb_iload rfl ?_
              refine rb_iload rfl ?_
              refine rb_cgt (fun h => absurd h (ia_ngt hha (by decide))) (fun _ => ?_)
              refine rb_push ?_
              refine rb_goto ?_
              refine rn_step rfl ?_
              refine rb_ret rfl rfl
            refine rb_ieq (fun h => absurd h (by decide)) (fun _ => ?_)
            refine rb_iload rfl ?_
            refine rb_push ?_
            refine rb_push ?_
            apply rb_callS3
            case hcl => exact rfl
            case hc =>
              apply ex_X8_within
              refine rn_step rfl ?_
              refine rb_iload rfl ?_
              refine rb_iload rfl ?_
              refine rb_clt (fun h => absurd h (ia_nlt hlb (by decide))) (fun _ => ?_)
              refine rb_iload rfl ?_
              refine rb_iload rfl ?_
              refine rb_cgt (fun _ => ?_) (fun h => absurd (ia_gt hlb (by decide)) h)
              refine rn_step rfl ?_
              refine rb_push ?_
              refine rb_goto ?_
              refine rn_step rfl ?_
              refine rb_ret rfl rfl
            refine rb_ine (fun h => absurd (by decide) h) (fun _ => ?_)
            refine rb_goto ?_
            refine rn_step rfl ?_
            refine rb_push ?_
            refine rb_ret rfl rfl
          case h2 =>
            apply ex_X9_want
            refine rn_step rfl ?_
            refine rb_iload rfl ?_
            refine rb_push ?_
            refine rb_push ?_
            apply rb_callS3
            case hcl => exact rfl
            case hc =>
              apply ex_X9_in
              refine rn_step rfl ?_
              refine rb_iload rfl ?_
              refine rb_iload rfl ?_
              refine rb_clt (fun h => absurd h (ia_nlt hla (by decide))) (fun _ => ?_)
              refine rb_iload rfl ?_
              refine rb_iload rfl ?_
              refine rb_cgt (fun h => absurd h (ia_ngt hha (by decide))) (fun _ => ?_)
              refine rb_push ?_
              refine rb_goto ?_
              refine rn_step rfl ?_
              refine rb_ret rfl rfl
            refine rb_ieq (fun h => absurd h (by decide)) (fun _ => ?_)
            refine rb_iload rfl ?_
            refine rb_push ?_
            refine rb_push ?_
            apply rb_callS3
            case hcl => exact rfl
            case hc =>
              apply ex_X9_in
              refine rn_step rfl ?_
              refine rb_iload rfl ?_
              refine rb_iload rfl ?_
              refine rb_clt (fun h => absurd h (ia_nlt hlb (by decide))) (fun _ => ?_)
              refine rb_iload rfl ?_
              refine rb_iload rfl ?_
              refine rb_cgt (fun _ => ?_) (fun h => absurd (ia_gt hlb (by decide)) h)
              refine rn_step rfl ?_
              refine rb_push ?_
              refine rb_goto ?_
              refine rn_step rfl ?_
              refine rb_ret rfl rfl
            refine rb_ieq (fun _ => ?_) (fun h => absurd (by decide) h)
            refine rn_step rfl ?_
            refine rb_push ?_
            refine rb_goto ?_
            refine rn_step rfl ?_
            refine rb_ret rfl rfl
          case h3 => exact s1_ok
          case h4 => exact rfl
    ·
      apply p1_intro (v := (-1000000001))
      case h1 =>
        apply ex_X8_want
        refine rn_step rfl ?_
        refine rb_iload rfl ?_
        refine rb_push ?_
        refine rb_push ?_
        apply rb_callS3
        case hcl => exact rfl
        case hc =>
          apply ex_X8_within
          refine rn_step rfl ?_
          refine rb_iload rfl ?_
          refine rb_iload rfl ?_
          refine rb_clt (fun h => absurd h (ia_nlt hla (by decide))) (fun _ => ?_)
          refine rb_iload rfl ?_
          refine rb_iload rfl ?_
          refine rb_cgt (fun _ => ?_) (fun h => absurd (ia_gt hla (by decide)) h)
          refine rn_step rfl ?_
          refine rb_push ?_
          refine rb_goto ?_
          refine rn_step rfl ?_
          refine rb_ret rfl rfl
        refine rb_ieq (fun _ => ?_) (fun h => absurd (by decide) h)
        refine rn_step rfl ?_
        refine rb_push ?_
        refine rb_ret rfl rfl
      case h2 =>
        apply ex_X9_want
        refine rn_step rfl ?_
        refine rb_iload rfl ?_
        refine rb_push ?_
        refine rb_push ?_
        apply rb_callS3
        case hcl => exact rfl
        case hc =>
          apply ex_X9_in
          refine rn_step rfl ?_
          refine rb_iload rfl ?_
          refine rb_iload rfl ?_
          refine rb_clt (fun h => absurd h (ia_nlt hla (by decide))) (fun _ => ?_)
          refine rb_iload rfl ?_
          refine rb_iload rfl ?_
          refine rb_cgt (fun _ => ?_) (fun h => absurd (ia_gt hla (by decide)) h)
          refine rn_step rfl ?_
          refine rb_push ?_
          refine rb_goto ?_
          refine rn_step rfl ?_
          refine rb_ret rfl rfl
        refine rb_ieq (fun _ => ?_) (fun h => absurd (by decide) h)
        refine rn_step rfl ?_
        refine rb_push ?_
        refine rb_goto ?_
        refine rn_step rfl ?_
        refine rb_ret rfl rfl
      case h3 => exact s1_ok
      case h4 => exact rfl
set_option maxRecDepth 1000000 in
set_option maxHeartbeats 40000000 in
theorem p1_wind (a : Int32) : P1 83 153 [.int a] := by
  have hla : -2147483648 ≤ a.toInt := ia_lo a
  have hha : a.toInt ≤ 2147483647 := ia_hi a
  rcases ia_cut (c := 0) hla hha with ⟨hla, hha⟩ | ⟨hla, hha⟩
  ·
    apply p1_intro (v := (-1000000001))
    case h1 =>
      apply ex_X8_wind
      refine rn_step rfl ?_
      refine rb_iload rfl ?_
      refine rb_push ?_
      refine rb_push ?_
      apply rb_callS3
      case hcl => exact rfl
      case hc =>
        apply ex_X8_within
        refine rn_step rfl ?_
        refine rb_iload rfl ?_
        refine rb_iload rfl ?_
        refine rb_clt (fun _ => ?_) (fun h => absurd (ia_lt hha (by decide)) h)
        refine rn_step rfl ?_
        refine rb_push ?_
        refine rb_goto ?_
        refine rn_step rfl ?_
        refine rb_ret rfl rfl
      refine rb_ine (fun h => absurd (by decide) h) (fun _ => ?_)
      refine rb_push ?_
      refine rb_ret rfl rfl
    case h2 =>
      apply ex_X9_wind
      refine rn_step rfl ?_
      refine rb_iload rfl ?_
      refine rb_push ?_
      refine rb_push ?_
      apply rb_callS3
      case hcl => exact rfl
      case hc =>
        apply ex_X9_in
        refine rn_step rfl ?_
        refine rb_iload rfl ?_
        refine rb_iload rfl ?_
        refine rb_clt (fun _ => ?_) (fun h => absurd (ia_lt hha (by decide)) h)
        refine rn_step rfl ?_
        refine rb_push ?_
        refine rb_goto ?_
        refine rn_step rfl ?_
        refine rb_ret rfl rfl
      refine rb_ieq (fun _ => ?_) (fun h => absurd (by decide) h)
      refine rn_step rfl ?_
      refine rb_push ?_
      refine rb_goto ?_
      refine rn_step rfl ?_
      refine rb_ret rfl rfl
    case h3 => exact s1_ok
    case h4 => exact rfl
  ·
    rcases ia_cut (c := 101) hla hha with ⟨hla, hha⟩ | ⟨hla, hha⟩
    ·
      apply p1_intro (v := 0)
      case h1 =>
        apply ex_X8_wind
        refine rn_step rfl ?_
        refine rb_iload rfl ?_
        refine rb_push ?_
        refine rb_push ?_
        apply rb_callS3
        case hcl => exact rfl
        case hc =>
          apply ex_X8_within
          refine rn_step rfl ?_
          refine rb_iload rfl ?_
          refine rb_iload rfl ?_
          refine rb_clt (fun h => absurd h (ia_nlt hla (by decide))) (fun _ => ?_)
          refine rb_iload rfl ?_
          refine rb_iload rfl ?_
          refine rb_cgt (fun h => absurd h (ia_ngt hha (by decide))) (fun _ => ?_)
          refine rb_push ?_
          refine rb_goto ?_
          refine rn_step rfl ?_
          refine rb_ret rfl rfl
        refine rb_ine (fun _ => ?_) (fun h => absurd (by decide) h)
        refine rn_step rfl ?_
        refine rb_aload rfl ?_
        refine rb_getf (v := .ref 1) rfl ?_
        refine rb_getf (v := .int 0) rfl ?_
        refine rb_istore (lv' := [some (.ref 0), some (.int (a)), some (.int 0)]) rfl ?_
        refine rb_aload rfl ?_
        refine rb_getf (v := .ref 1) rfl ?_
        refine rb_iload rfl ?_
        refine rb_putI (pf_1_12 _ _) ?_
        refine rb_iload rfl ?_
        refine rb_ret rfl rfl
      case h2 =>
        apply ex_X9_wind
        refine rn_step rfl ?_
        refine rb_iload rfl ?_
        refine rb_push ?_
        refine rb_push ?_
        apply rb_callS3
        case hcl => exact rfl
        case hc =>
          apply ex_X9_in
          refine rn_step rfl ?_
          refine rb_iload rfl ?_
          refine rb_iload rfl ?_
          refine rb_clt (fun h => absurd h (ia_nlt hla (by decide))) (fun _ => ?_)
          refine rb_iload rfl ?_
          refine rb_iload rfl ?_
          refine rb_cgt (fun h => absurd h (ia_ngt hha (by decide))) (fun _ => ?_)
          refine rb_push ?_
          refine rb_goto ?_
          refine rn_step rfl ?_
          refine rb_ret rfl rfl
        refine rb_ieq (fun h => absurd h (by decide)) (fun _ => ?_)
        refine rb_aload rfl ?_
        refine rb_push ?_
        refine rb_iload rfl ?_
        apply rb_callV2
        case hb => exact rfl
        case hcl => exact rfl
        case hc =>
          apply ex_X9_becomes
          refine rn_step rfl ?_
          refine rb_aload rfl ?_
          refine rb_getf (v := .ref 69) rfl ?_
          refine rb_iload rfl ?_
          refine rb_iald rfl (by decide) (show _ = some (0) from rfl) ?_
          refine rb_istore (lv' := [some (.ref 68), some (.int 3), some (.int (a)), some (.int 0)]) rfl ?_
          refine rb_aload rfl ?_
          refine rb_getf (v := .ref 69) rfl ?_
          refine rb_iload rfl ?_
          refine rb_iload rfl ?_
          refine rb_iast rfl (by decide) (ok_lt (okL.sI s1_ok _ _ _) (c := 69) (n := 1461) (by decide) rfl (by decide) (by decide)) (wa_69 _ _) ?_
          refine rb_iload rfl ?_
          refine rb_ret rfl rfl
        refine rb_goto ?_
        refine rn_step rfl ?_
        refine rb_ret rfl rfl
      case h3 => exact (okL.sA (okL.sI s1_ok _ _ _) _ (List.length_set ..))
      case h4 => exact rfl
    ·
      apply p1_intro (v := (-1000000001))
      case h1 =>
        apply ex_X8_wind
        refine rn_step rfl ?_
        refine rb_iload rfl ?_
        refine rb_push ?_
        refine rb_push ?_
        apply rb_callS3
        case hcl => exact rfl
        case hc =>
          apply ex_X8_within
          refine rn_step rfl ?_
          refine rb_iload rfl ?_
          refine rb_iload rfl ?_
          refine rb_clt (fun h => absurd h (ia_nlt hla (by decide))) (fun _ => ?_)
          refine rb_iload rfl ?_
          refine rb_iload rfl ?_
          refine rb_cgt (fun _ => ?_) (fun h => absurd (ia_gt hla (by decide)) h)
          refine rn_step rfl ?_
          refine rb_push ?_
          refine rb_goto ?_
          refine rn_step rfl ?_
          refine rb_ret rfl rfl
        refine rb_ine (fun h => absurd (by decide) h) (fun _ => ?_)
        refine rb_push ?_
        refine rb_ret rfl rfl
      case h2 =>
        apply ex_X9_wind
        refine rn_step rfl ?_
        refine rb_iload rfl ?_
        refine rb_push ?_
        refine rb_push ?_
        apply rb_callS3
        case hcl => exact rfl
        case hc =>
          apply ex_X9_in
          refine rn_step rfl ?_
          refine rb_iload rfl ?_
          refine rb_iload rfl ?_
          refine rb_clt (fun h => absurd h (ia_nlt hla (by decide))) (fun _ => ?_)
          refine rb_iload rfl ?_
          refine rb_iload rfl ?_
          refine rb_cgt (fun _ => ?_) (fun h => absurd (ia_gt hla (by decide)) h)
          refine rn_step rfl ?_
          refine rb_push ?_
          refine rb_goto ?_
          refine rn_step rfl ?_
          refine rb_ret rfl rfl
        refine rb_ieq (fun _ => ?_) (fun h => absurd (by decide) h)
        refine rn_step rfl ?_
        refine rb_push ?_
        refine rb_goto ?_
        refine rn_step rfl ?_
        refine rb_ret rfl rfl
      case h3 => exact s1_ok
      case h4 => exact rfl
set_option maxRecDepth 1000000 in
set_option maxHeartbeats 40000000 in
theorem p1_deal (a : Int32) : P1 84 155 [.int a] := by
  have hla : -2147483648 ≤ a.toInt := ia_lo a
  have hha : a.toInt ≤ 2147483647 := ia_hi a
  rcases ia_cut (c := 1) hla hha with ⟨hla, hha⟩ | ⟨hla, hha⟩
  ·
    apply p1_intro (v := (-1000000001))
    case h1 =>
      apply ex_X8_deal
      refine rn_step rfl ?_
      refine rb_iload rfl ?_
      refine rb_push ?_
      refine rb_push ?_
      apply rb_callS3
      case hcl => exact rfl
      case hc =>
        apply ex_X8_within
        refine rn_step rfl ?_
        refine rb_iload rfl ?_
        refine rb_iload rfl ?_
        refine rb_clt (fun _ => ?_) (fun h => absurd (ia_lt hha (by decide)) h)
        refine rn_step rfl ?_
        refine rb_push ?_
        refine rb_goto ?_
        refine rn_step rfl ?_
        refine rb_ret rfl rfl
      refine rb_ine (fun h => absurd (by decide) h) (fun _ => ?_)
      refine rb_push ?_
      refine rb_ret rfl rfl
    case h2 =>
      apply ex_X9_deal
      refine rn_step rfl ?_
      refine rb_iload rfl ?_
      refine rb_push ?_
      refine rb_push ?_
      apply rb_callS3
      case hcl => exact rfl
      case hc =>
        apply ex_X9_in
        refine rn_step rfl ?_
        refine rb_iload rfl ?_
        refine rb_iload rfl ?_
        refine rb_clt (fun _ => ?_) (fun h => absurd (ia_lt hha (by decide)) h)
        refine rn_step rfl ?_
        refine rb_push ?_
        refine rb_goto ?_
        refine rn_step rfl ?_
        refine rb_ret rfl rfl
      refine rb_ine (fun h => absurd (by decide) h) (fun _ => ?_)
      refine rb_push ?_
      refine rb_ret rfl rfl
    case h3 => exact s1_ok
    case h4 => exact rfl
  ·
    rcases ia_cut (c := 13) hla hha with ⟨hla, hha⟩ | ⟨hla, hha⟩
    ·
      -- box [(1, 12)]
      have hbox : ∀ n0 : Nat, n0 < 12 → ck 84 155 [.int (Int32.ofInt (1 + (n0 : Int)))] = true := by decide +kernel
      obtain ⟨n0, hn0, rfl⟩ := ia_box (l := 1) (m := 12) hla hha (by decide) (by decide)
      exact ck_ok (hbox n0 hn0)
    ·
      apply p1_intro (v := (-1000000001))
      case h1 =>
        apply ex_X8_deal
        refine rn_step rfl ?_
        refine rb_iload rfl ?_
        refine rb_push ?_
        refine rb_push ?_
        apply rb_callS3
        case hcl => exact rfl
        case hc =>
          apply ex_X8_within
          refine rn_step rfl ?_
          refine rb_iload rfl ?_
          refine rb_iload rfl ?_
          refine rb_clt (fun h => absurd h (ia_nlt hla (by decide))) (fun _ => ?_)
          refine rb_iload rfl ?_
          refine rb_iload rfl ?_
          refine rb_cgt (fun _ => ?_) (fun h => absurd (ia_gt hla (by decide)) h)
          refine rn_step rfl ?_
          refine rb_push ?_
          refine rb_goto ?_
          refine rn_step rfl ?_
          refine rb_ret rfl rfl
        refine rb_ine (fun h => absurd (by decide) h) (fun _ => ?_)
        refine rb_push ?_
        refine rb_ret rfl rfl
      case h2 =>
        apply ex_X9_deal
        refine rn_step rfl ?_
        refine rb_iload rfl ?_
        refine rb_push ?_
        refine rb_push ?_
        apply rb_callS3
        case hcl => exact rfl
        case hc =>
          apply ex_X9_in
          refine rn_step rfl ?_
          refine rb_iload rfl ?_
          refine rb_iload rfl ?_
          refine rb_clt (fun h => absurd h (ia_nlt hla (by decide))) (fun _ => ?_)
          refine rb_iload rfl ?_
          refine rb_iload rfl ?_
          refine rb_cgt (fun _ => ?_) (fun h => absurd (ia_gt hla (by decide)) h)
          refine rn_step rfl ?_
          refine rb_push ?_
          refine rb_goto ?_
          refine rn_step rfl ?_
          refine rb_ret rfl rfl
        refine rb_ine (fun h => absurd (by decide) h) (fun _ => ?_)
        refine rb_push ?_
        refine rb_ret rfl rfl
      case h3 => exact s1_ok
      case h4 => exact rfl
set_option maxRecDepth 1000000 in
set_option maxHeartbeats 40000000 in
theorem p1_at (a : Int32) : P1 88 165 [.int a] := by
  have hla : -2147483648 ≤ a.toInt := ia_lo a
  have hha : a.toInt ≤ 2147483647 := ia_hi a
  rcases ia_cut (c := 0) hla hha with ⟨hla, hha⟩ | ⟨hla, hha⟩
  ·
    apply p1_intro (v := (-1000000001))
    case h1 =>
      apply ex_X8_at
      refine rn_step rfl ?_
      refine rb_iload rfl ?_
      apply rb_callS1
      case hcl => exact rfl
      case hc =>
        apply ex_X8_isPlace
        refine rn_step rfl ?_
        refine rb_iload rfl ?_
        refine rb_push ?_
        refine rb_push ?_
        apply rb_callS3
        case hcl => exact rfl
        case hc =>
          apply ex_X8_within
          refine rn_step rfl ?_
          refine rb_iload rfl ?_
          refine rb_iload rfl ?_
          refine rb_clt (fun _ => ?_) (fun h => absurd (ia_lt hha (by decide)) h)
          refine rn_step rfl ?_
          refine rb_push ?_
          refine rb_goto ?_
          refine rn_step rfl ?_
          refine rb_ret rfl rfl
        refine rb_ret rfl rfl
      refine rb_ieq (fun _ => ?_) (fun h => absurd (by decide) h)
      refine rn_step rfl ?_
      refine rb_push ?_
      refine rb_goto ?_
      refine rn_step rfl ?_
      refine rb_ret rfl rfl
    case h2 =>
      apply ex_X9_at
      refine rn_step rfl ?_
      refine rb_iload rfl ?_
      apply rb_callS1
      case hcl => exact rfl
      case hc =>
        apply ex_X9_isPlace
        refine rn_step rfl ?_
        refine rb_iload rfl ?_
        refine rb_push ?_
        refine rb_push ?_
        apply rb_callS3
        case hcl => exact rfl
        case hc =>
          apply ex_X9_in
          refine rn_step rfl ?_
          refine rb_iload rfl ?_
          refine rb_iload rfl ?_
          refine rb_clt (fun _ => ?_) (fun h => absurd (ia_lt hha (by decide)) h)
          refine rn_step rfl ?_
          refine rb_push ?_
          refine rb_goto ?_
          refine rn_step rfl ?_
          refine rb_ret rfl rfl
        refine rb_ret rfl rfl
      refine rb_ieq (fun _ => ?_) (fun h => absurd (by decide) h)
      refine rn_step rfl ?_
      refine rb_push ?_
      refine rb_goto ?_
      refine rn_step rfl ?_
      refine rb_ret rfl rfl
    case h3 => exact s1_ok
    case h4 => exact rfl
  ·
    rcases ia_cut (c := 12) hla hha with ⟨hla, hha⟩ | ⟨hla, hha⟩
    ·
      -- box [(0, 11)]
      have hbox : ∀ n0 : Nat, n0 < 12 → ck 88 165 [.int (Int32.ofInt (0 + (n0 : Int)))] = true := by decide +kernel
      obtain ⟨n0, hn0, rfl⟩ := ia_box (l := 0) (m := 12) hla hha (by decide) (by decide)
      exact ck_ok (hbox n0 hn0)
    ·
      apply p1_intro (v := (-1000000001))
      case h1 =>
        apply ex_X8_at
        refine rn_step rfl ?_
        refine rb_iload rfl ?_
        apply rb_callS1
        case hcl => exact rfl
        case hc =>
          apply ex_X8_isPlace
          refine rn_step rfl ?_
          refine rb_iload rfl ?_
          refine rb_push ?_
          refine rb_push ?_
          apply rb_callS3
          case hcl => exact rfl
          case hc =>
            apply ex_X8_within
            refine rn_step rfl ?_
            refine rb_iload rfl ?_
            refine rb_iload rfl ?_
            refine rb_clt (fun h => absurd h (ia_nlt hla (by decide))) (fun _ => ?_)
            refine rb_iload rfl ?_
            refine rb_iload rfl ?_
            refine rb_cgt (fun _ => ?_) (fun h => absurd (ia_gt hla (by decide)) h)
            refine rn_step rfl ?_
            refine rb_push ?_
            refine rb_goto ?_
            refine rn_step rfl ?_
            refine rb_ret rfl rfl
          refine rb_ret rfl rfl
        refine rb_ieq (fun _ => ?_) (fun h => absurd (by decide) h)
        refine rn_step rfl ?_
        refine rb_push ?_
        refine rb_goto ?_
        refine rn_step rfl ?_
        refine rb_ret rfl rfl
      case h2 =>
        apply ex_X9_at
        refine rn_step rfl ?_
        refine rb_iload rfl ?_
        apply rb_callS1
        case hcl => exact rfl
        case hc =>
          apply ex_X9_isPlace
          refine rn_step rfl ?_
          refine rb_iload rfl ?_
          refine rb_push ?_
          refine rb_push ?_
          apply rb_callS3
          case hcl => exact rfl
          case hc =>
            apply ex_X9_in
            refine rn_step rfl ?_
            refine rb_iload rfl ?_
            refine rb_iload rfl ?_
            refine rb_clt (fun h => absurd h (ia_nlt hla (by decide))) (fun _ => ?_)
            refine rb_iload rfl ?_
            refine rb_iload rfl ?_
            refine rb_cgt (fun _ => ?_) (fun h => absurd (ia_gt hla (by decide)) h)
            refine rn_step rfl ?_
            refine rb_push ?_
            refine rb_goto ?_
            refine rn_step rfl ?_
            refine rb_ret rfl rfl
          refine rb_ret rfl rfl
        refine rb_ieq (fun _ => ?_) (fun h => absurd (by decide) h)
        refine rn_step rfl ?_
        refine rb_push ?_
        refine rb_goto ?_
        refine rn_step rfl ?_
        refine rb_ret rfl rfl
      case h3 => exact s1_ok
      case h4 => exact rfl
set_option maxRecDepth 1000000 in
set_option maxHeartbeats 40000000 in
theorem p1_knocked (a : Int32) : P1 92 174 [.int a] := by
  have hla : -2147483648 ≤ a.toInt := ia_lo a
  have hha : a.toInt ≤ 2147483647 := ia_hi a
  rcases ia_cut (c := 0) hla hha with ⟨hla, hha⟩ | ⟨hla, hha⟩
  ·
    apply p1_intro (v := (-1000000001))
    case h1 =>
      apply ex_X8_knocked
      refine rn_step rfl ?_
      refine rb_iload rfl ?_
      apply rb_callS1
      case hcl => exact rfl
      case hc =>
        apply ex_X8_isPlace
        refine rn_step rfl ?_
        refine rb_iload rfl ?_
        refine rb_push ?_
        refine rb_push ?_
        apply rb_callS3
        case hcl => exact rfl
        case hc =>
          apply ex_X8_within
          refine rn_step rfl ?_
          refine rb_iload rfl ?_
          refine rb_iload rfl ?_
          refine rb_clt (fun _ => ?_) (fun h => absurd (ia_lt hha (by decide)) h)
          refine rn_step rfl ?_
          refine rb_push ?_
          refine rb_goto ?_
          refine rn_step rfl ?_
          refine rb_ret rfl rfl
        refine rb_ret rfl rfl
      refine rb_ieq (fun _ => ?_) (fun h => absurd (by decide) h)
      refine rn_step rfl ?_
      refine rb_push ?_
      refine rb_goto ?_
      refine rn_step rfl ?_
      refine rb_ret rfl rfl
    case h2 =>
      apply ex_X9_knocked
      refine rn_step rfl ?_
      refine rb_iload rfl ?_
      apply rb_callS1
      case hcl => exact rfl
      case hc =>
        apply ex_X9_isPlace
        refine rn_step rfl ?_
        refine rb_iload rfl ?_
        refine rb_push ?_
        refine rb_push ?_
        apply rb_callS3
        case hcl => exact rfl
        case hc =>
          apply ex_X9_in
          refine rn_step rfl ?_
          refine rb_iload rfl ?_
          refine rb_iload rfl ?_
          refine rb_clt (fun _ => ?_) (fun h => absurd (ia_lt hha (by decide)) h)
          refine rn_step rfl ?_
          refine rb_push ?_
          refine rb_goto ?_
          refine rn_step rfl ?_
          refine rb_ret rfl rfl
        refine rb_ret rfl rfl
      refine rb_ieq (fun _ => ?_) (fun h => absurd (by decide) h)
      refine rn_step rfl ?_
      refine rb_push ?_
      refine rb_goto ?_
      refine rn_step rfl ?_
      refine rb_ret rfl rfl
    case h3 => exact s1_ok
    case h4 => exact rfl
  ·
    rcases ia_cut (c := 12) hla hha with ⟨hla, hha⟩ | ⟨hla, hha⟩
    ·
      -- box [(0, 11)]
      have hbox : ∀ n0 : Nat, n0 < 12 → ck 92 174 [.int (Int32.ofInt (0 + (n0 : Int)))] = true := by decide +kernel
      obtain ⟨n0, hn0, rfl⟩ := ia_box (l := 0) (m := 12) hla hha (by decide) (by decide)
      exact ck_ok (hbox n0 hn0)
    ·
      apply p1_intro (v := (-1000000001))
      case h1 =>
        apply ex_X8_knocked
        refine rn_step rfl ?_
        refine rb_iload rfl ?_
        apply rb_callS1
        case hcl => exact rfl
        case hc =>
          apply ex_X8_isPlace
          refine rn_step rfl ?_
          refine rb_iload rfl ?_
          refine rb_push ?_
          refine rb_push ?_
          apply rb_callS3
          case hcl => exact rfl
          case hc =>
            apply ex_X8_within
            refine rn_step rfl ?_
            refine rb_iload rfl ?_
            refine rb_iload rfl ?_
            refine rb_clt (fun h => absurd h (ia_nlt hla (by decide))) (fun _ => ?_)
            refine rb_iload rfl ?_
            refine rb_iload rfl ?_
            refine rb_cgt (fun _ => ?_) (fun h => absurd (ia_gt hla (by decide)) h)
            refine rn_step rfl ?_
            refine rb_push ?_
            refine rb_goto ?_
            refine rn_step rfl ?_
            refine rb_ret rfl rfl
          refine rb_ret rfl rfl
        refine rb_ieq (fun _ => ?_) (fun h => absurd (by decide) h)
        refine rn_step rfl ?_
        refine rb_push ?_
        refine rb_goto ?_
        refine rn_step rfl ?_
        refine rb_ret rfl rfl
      case h2 =>
        apply ex_X9_knocked
        refine rn_step rfl ?_
        refine rb_iload rfl ?_
        apply rb_callS1
        case hcl => exact rfl
        case hc =>
          apply ex_X9_isPlace
          refine rn_step rfl ?_
          refine rb_iload rfl ?_
          refine rb_push ?_
          refine rb_push ?_
          apply rb_callS3
          case hcl => exact rfl
          case hc =>
            apply ex_X9_in
            refine rn_step rfl ?_
            refine rb_iload rfl ?_
            refine rb_iload rfl ?_
            refine rb_clt (fun h => absurd h (ia_nlt hla (by decide))) (fun _ => ?_)
            refine rb_iload rfl ?_
            refine rb_iload rfl ?_
            refine rb_cgt (fun _ => ?_) (fun h => absurd (ia_gt hla (by decide)) h)
            refine rn_step rfl ?_
            refine rb_push ?_
            refine rb_goto ?_
            refine rn_step rfl ?_
            refine rb_ret rfl rfl
          refine rb_ret rfl rfl
        refine rb_ieq (fun _ => ?_) (fun h => absurd (by decide) h)
        refine rn_step rfl ?_
        refine rb_push ?_
        refine rb_goto ?_
        refine rn_step rfl ?_
        refine rb_ret rfl rfl
      case h3 => exact s1_ok
      case h4 => exact rfl
set_option maxRecDepth 1000000 in
set_option maxHeartbeats 40000000 in
theorem p1_push (a : Int32) : P1 93 175 [.int a] := by
  have hla : -2147483648 ≤ a.toInt := ia_lo a
  have hha : a.toInt ≤ 2147483647 := ia_hi a
  rcases ia_cut (c := 0) hla hha with ⟨hla, hha⟩ | ⟨hla, hha⟩
  ·
    apply p1_intro (v := (-1000000001))
    case h1 =>
      apply ex_X8_push
      refine rn_step rfl ?_
      refine rb_iload rfl ?_
      refine rb_push ?_
      refine rb_push ?_
      apply rb_callS3
      case hcl => exact rfl
      case hc =>
        apply ex_X8_within
        refine rn_step rfl ?_
        refine rb_iload rfl ?_
        refine rb_iload rfl ?_
        refine rb_clt (fun _ => ?_) (fun h => absurd (ia_lt hha (by decide)) h)
        refine rn_step rfl ?_
        refine rb_push ?_
        refine rb_goto ?_
        refine rn_step rfl ?_
        refine rb_ret rfl rfl
      refine rb_ine (fun h => absurd (by decide) h) (fun _ => ?_)
      refine rb_push ?_
      refine rb_ret rfl rfl
    case h2 =>
      apply ex_X9_push
      refine rn_step rfl ?_
      refine rb_iload rfl ?_
      refine rb_push ?_
      refine rb_push ?_
      apply rb_callS3
      case hcl => exact rfl
      case hc =>
        apply ex_X9_in
        refine rn_step rfl ?_
        refine rb_iload rfl ?_
        refine rb_iload rfl ?_
        refine rb_clt (fun _ => ?_) (fun h => absurd (ia_lt hha (by decide)) h)
        refine rn_step rfl ?_
        refine rb_push ?_
        refine rb_goto ?_
        refine rn_step rfl ?_
        refine rb_ret rfl rfl
      refine rb_ine (fun h => absurd (by decide) h) (fun _ => ?_)
      refine rb_push ?_
      refine rb_ret rfl rfl
    case h3 => exact s1_ok
    case h4 => exact rfl
  ·
    rcases ia_cut (c := 2) hla hha with ⟨hla, hha⟩ | ⟨hla, hha⟩
    ·
      -- box [(0, 1)]
      have hbox : ∀ n0 : Nat, n0 < 2 → ck 93 175 [.int (Int32.ofInt (0 + (n0 : Int)))] = true := by decide +kernel
      obtain ⟨n0, hn0, rfl⟩ := ia_box (l := 0) (m := 2) hla hha (by decide) (by decide)
      exact ck_ok (hbox n0 hn0)
    ·
      apply p1_intro (v := (-1000000001))
      case h1 =>
        apply ex_X8_push
        refine rn_step rfl ?_
        refine rb_iload rfl ?_
        refine rb_push ?_
        refine rb_push ?_
        apply rb_callS3
        case hcl => exact rfl
        case hc =>
          apply ex_X8_within
          refine rn_step rfl ?_
          refine rb_iload rfl ?_
          refine rb_iload rfl ?_
          refine rb_clt (fun h => absurd h (ia_nlt hla (by decide))) (fun _ => ?_)
          refine rb_iload rfl ?_
          refine rb_iload rfl ?_
          refine rb_cgt (fun _ => ?_) (fun h => absurd (ia_gt hla (by decide)) h)
          refine rn_step rfl ?_
          refine rb_push ?_
          refine rb_goto ?_
          refine rn_step rfl ?_
          refine rb_ret rfl rfl
        refine rb_ine (fun h => absurd (by decide) h) (fun _ => ?_)
        refine rb_push ?_
        refine rb_ret rfl rfl
      case h2 =>
        apply ex_X9_push
        refine rn_step rfl ?_
        refine rb_iload rfl ?_
        refine rb_push ?_
        refine rb_push ?_
        apply rb_callS3
        case hcl => exact rfl
        case hc =>
          apply ex_X9_in
          refine rn_step rfl ?_
          refine rb_iload rfl ?_
          refine rb_iload rfl ?_
          refine rb_clt (fun h => absurd h (ia_nlt hla (by decide))) (fun _ => ?_)
          refine rb_iload rfl ?_
          refine rb_iload rfl ?_
          refine rb_cgt (fun _ => ?_) (fun h => absurd (ia_gt hla (by decide)) h)
          refine rn_step rfl ?_
          refine rb_push ?_
          refine rb_goto ?_
          refine rn_step rfl ?_
          refine rb_ret rfl rfl
        refine rb_ine (fun h => absurd (by decide) h) (fun _ => ?_)
        refine rb_push ?_
        refine rb_ret rfl rfl
      case h3 => exact s1_ok
      case h4 => exact rfl
set_option maxRecDepth 1000000 in
set_option maxHeartbeats 40000000 in
theorem p1_why (a : Int32) : P1 104 203 [.int a] := by
  have hla : -2147483648 ≤ a.toInt := ia_lo a
  have hha : a.toInt ≤ 2147483647 := ia_hi a
  rcases ia_cut (c := 0) hla hha with ⟨hla, hha⟩ | ⟨hla, hha⟩
  ·
    apply p1_intro (v := (-1000000001))
    case h1 =>
      apply ex_X8_why
      refine rn_step rfl ?_
      refine rb_iload rfl ?_
      refine rb_push ?_
      refine rb_push ?_
      apply rb_callS3
      case hcl => exact rfl
      case hc =>
        apply ex_X8_within
        refine rn_step rfl ?_
        refine rb_iload rfl ?_
        refine rb_iload rfl ?_
        refine rb_clt (fun _ => ?_) (fun h => absurd (ia_lt hha (by decide)) h)
        refine rn_step rfl ?_
        refine rb_push ?_
        refine rb_goto ?_
        refine rn_step rfl ?_
        refine rb_ret rfl rfl
      refine rb_ine (fun h => absurd (by decide) h) (fun _ => ?_)
      refine rb_push ?_
      refine rb_ret rfl rfl
    case h2 =>
      apply ex_X9_why
      refine rn_step rfl ?_
      refine rb_iload rfl ?_
      refine rb_push ?_
      refine rb_push ?_
      apply rb_callS3
      case hcl => exact rfl
      case hc =>
        apply ex_X9_in
        refine rn_step rfl ?_
        refine rb_iload rfl ?_
        refine rb_iload rfl ?_
        refine rb_clt (fun _ => ?_) (fun h => absurd (ia_lt hha (by decide)) h)
        refine rn_step rfl ?_
        refine rb_push ?_
        refine rb_goto ?_
        refine rn_step rfl ?_
        refine rb_ret rfl rfl
      refine rb_ine (fun h => absurd (by decide) h) (fun _ => ?_)
      refine rb_push ?_
      refine rb_ret rfl rfl
    case h3 => exact s1_ok
    case h4 => exact rfl
  ·
    rcases ia_cut (c := 3) hla hha with ⟨hla, hha⟩ | ⟨hla, hha⟩
    ·
      -- box [(0, 2)]
      have hbox : ∀ n0 : Nat, n0 < 3 → ck 104 203 [.int (Int32.ofInt (0 + (n0 : Int)))] = true := by decide +kernel
      obtain ⟨n0, hn0, rfl⟩ := ia_box (l := 0) (m := 3) hla hha (by decide) (by decide)
      exact ck_ok (hbox n0 hn0)
    ·
      apply p1_intro (v := (-1000000001))
      case h1 =>
        apply ex_X8_why
        refine rn_step rfl ?_
        refine rb_iload rfl ?_
        refine rb_push ?_
        refine rb_push ?_
        apply rb_callS3
        case hcl => exact rfl
        case hc =>
          apply ex_X8_within
          refine rn_step rfl ?_
          refine rb_iload rfl ?_
          refine rb_iload rfl ?_
          refine rb_clt (fun h => absurd h (ia_nlt hla (by decide))) (fun _ => ?_)
          refine rb_iload rfl ?_
          refine rb_iload rfl ?_
          refine rb_cgt (fun _ => ?_) (fun h => absurd (ia_gt hla (by decide)) h)
          refine rn_step rfl ?_
          refine rb_push ?_
          refine rb_goto ?_
          refine rn_step rfl ?_
          refine rb_ret rfl rfl
        refine rb_ine (fun h => absurd (by decide) h) (fun _ => ?_)
        refine rb_push ?_
        refine rb_ret rfl rfl
      case h2 =>
        apply ex_X9_why
        refine rn_step rfl ?_
        refine rb_iload rfl ?_
        refine rb_push ?_
        refine rb_push ?_
        apply rb_callS3
        case hcl => exact rfl
        case hc =>
          apply ex_X9_in
          refine rn_step rfl ?_
          refine rb_iload rfl ?_
          refine rb_iload rfl ?_
          refine rb_clt (fun h => absurd h (ia_nlt hla (by decide))) (fun _ => ?_)
          refine rb_iload rfl ?_
          refine rb_iload rfl ?_
          refine rb_cgt (fun _ => ?_) (fun h => absurd (ia_gt hla (by decide)) h)
          refine rn_step rfl ?_
          refine rb_push ?_
          refine rb_goto ?_
          refine rn_step rfl ?_
          refine rb_ret rfl rfl
        refine rb_ine (fun h => absurd (by decide) h) (fun _ => ?_)
        refine rb_push ?_
        refine rb_ret rfl rfl
      case h3 => exact s1_ok
      case h4 => exact rfl
set_option maxRecDepth 1000000 in
set_option maxHeartbeats 40000000 in
theorem p1_trim (a : Int32) : P1 101 188 [.int a] := by
  have hla : -2147483648 ≤ a.toInt := ia_lo a
  have hha : a.toInt ≤ 2147483647 := ia_hi a
  rcases ia_cut (c := 0) hla hha with ⟨hla, hha⟩ | ⟨hla, hha⟩
  ·
    apply p1_intro (v := (-1000000001))
    case h1 =>
      apply ex_X8_trim
      refine rn_step rfl ?_
      refine rb_iload rfl ?_
      refine rb_push ?_
      refine rb_aload rfl ?_
      refine rb_getf (v := .ref 37) rfl ?_
      refine rb_getf (v := .int 0) rfl ?_
      apply rb_callS3
      case hcl => exact rfl
      case hc =>
        apply ex_X8_within
        refine rn_step rfl ?_
        refine rb_iload rfl ?_
        refine rb_iload rfl ?_
        refine rb_clt (fun _ => ?_) (fun h => absurd (ia_lt hha (by decide)) h)
        refine rn_step rfl ?_
        refine rb_push ?_
        refine rb_goto ?_
        refine rn_step rfl ?_
        refine rb_ret rfl rfl
      refine rb_ine (fun h => absurd (by decide) h) (fun _ => ?_)
      refine rb_push ?_
      refine rb_ret rfl rfl
    case h2 =>
      apply ex_X9_trim
      refine rn_step rfl ?_
      refine rb_iload rfl ?_
      refine rb_push ?_
      refine rb_aload rfl ?_
      refine rb_getf (v := .int 0) rfl ?_
      apply rb_callS3
      case hcl => exact rfl
      case hc =>
        apply ex_X9_in
        refine rn_step rfl ?_
        refine rb_iload rfl ?_
        refine rb_iload rfl ?_
        refine rb_clt (fun _ => ?_) (fun h => absurd (ia_lt hha (by decide)) h)
        refine rn_step rfl ?_
        refine rb_push ?_
        refine rb_goto ?_
        refine rn_step rfl ?_
        refine rb_ret rfl rfl
      refine rb_ine (fun h => absurd (by decide) h) (fun _ => ?_)
      refine rb_push ?_
      refine rb_ret rfl rfl
    case h3 => exact s1_ok
    case h4 => exact rfl
  ·
    rcases ia_cut (c := 1) hla hha with ⟨hla, hha⟩ | ⟨hla, hha⟩
    ·
      obtain rfl : a = 0 := ia_one hla hha (by decide) (by decide)
      exact ck_ok (by decide +kernel)
    ·
      apply p1_intro (v := (-1000000001))
      case h1 =>
        apply ex_X8_trim
        refine rn_step rfl ?_
        refine rb_iload rfl ?_
        refine rb_push ?_
        refine rb_aload rfl ?_
        refine rb_getf (v := .ref 37) rfl ?_
        refine rb_getf (v := .int 0) rfl ?_
        apply rb_callS3
        case hcl => exact rfl
        case hc =>
          apply ex_X8_within
          refine rn_step rfl ?_
          refine rb_iload rfl ?_
          refine rb_iload rfl ?_
          refine rb_clt (fun h => absurd h (ia_nlt hla (by decide))) (fun _ => ?_)
          refine rb_iload rfl ?_
          refine rb_iload rfl ?_
          refine rb_cgt (fun _ => ?_) (fun h => absurd (ia_gt hla (by decide)) h)
          refine rn_step rfl ?_
          refine rb_push ?_
          refine rb_goto ?_
          refine rn_step rfl ?_
          refine rb_ret rfl rfl
        refine rb_ine (fun h => absurd (by decide) h) (fun _ => ?_)
        refine rb_push ?_
        refine rb_ret rfl rfl
      case h2 =>
        apply ex_X9_trim
        refine rn_step rfl ?_
        refine rb_iload rfl ?_
        refine rb_push ?_
        refine rb_aload rfl ?_
        refine rb_getf (v := .int 0) rfl ?_
        apply rb_callS3
        case hcl => exact rfl
        case hc =>
          apply ex_X9_in
          refine rn_step rfl ?_
          refine rb_iload rfl ?_
          refine rb_iload rfl ?_
          refine rb_clt (fun h => absurd h (ia_nlt hla (by decide))) (fun _ => ?_)
          refine rb_iload rfl ?_
          refine rb_iload rfl ?_
          refine rb_cgt (fun _ => ?_) (fun h => absurd (ia_gt hla (by decide)) h)
          refine rn_step rfl ?_
          refine rb_push ?_
          refine rb_goto ?_
          refine rn_step rfl ?_
          refine rb_ret rfl rfl
        refine rb_ine (fun h => absurd (by decide) h) (fun _ => ?_)
        refine rb_push ?_
        refine rb_ret rfl rfl
      case h3 => exact s1_ok
      case h4 => exact rfl
