set_option maxRecDepth 1000000 in
theorem bx_stone_1 : ∀ n2 : Nat, n2 < 7 → ck 75 138 [.int 0, .int 0, .int (Int32.ofInt (0 + (n2 : Int)))] = true := by decide +kernel
set_option maxRecDepth 1000000 in
theorem bx_stone_2 : ∀ n2 : Nat, n2 < 7 → ck 75 138 [.int 0, .int 1, .int (Int32.ofInt (0 + (n2 : Int)))] = true := by decide +kernel
set_option maxRecDepth 1000000 in
theorem bx_stone_3 : ∀ n2 : Nat, n2 < 7 → ck 75 138 [.int 0, .int 2, .int (Int32.ofInt (0 + (n2 : Int)))] = true := by decide +kernel
set_option maxRecDepth 1000000 in
theorem bx_stone_4 : ∀ n2 : Nat, n2 < 7 → ck 75 138 [.int 0, .int 3, .int (Int32.ofInt (0 + (n2 : Int)))] = true := by decide +kernel
set_option maxRecDepth 1000000 in
theorem bx_stone_5 : ∀ n2 : Nat, n2 < 7 → ck 75 138 [.int 0, .int 4, .int (Int32.ofInt (0 + (n2 : Int)))] = true := by decide +kernel
set_option maxRecDepth 1000000 in
theorem bx_stone_6 : ∀ n1 : Nat, n1 < 2 → ∀ n2 : Nat, n2 < 7 → ck 75 138 [.int 0, .int (Int32.ofInt (5 + (n1 : Int))), .int (Int32.ofInt (0 + (n2 : Int)))] = true := by decide +kernel
set_option maxRecDepth 1000000 in
theorem bx_stone_7 : ∀ n2 : Nat, n2 < 7 → ck 75 138 [.int 1, .int 0, .int (Int32.ofInt (0 + (n2 : Int)))] = true := by decide +kernel
set_option maxRecDepth 1000000 in
theorem bx_stone_8 : ∀ n2 : Nat, n2 < 7 → ck 75 138 [.int 1, .int 1, .int (Int32.ofInt (0 + (n2 : Int)))] = true := by decide +kernel
set_option maxRecDepth 1000000 in
theorem bx_stone_9 : ∀ n2 : Nat, n2 < 7 → ck 75 138 [.int 1, .int 2, .int (Int32.ofInt (0 + (n2 : Int)))] = true := by decide +kernel
set_option maxRecDepth 1000000 in
theorem bx_stone_10 : ∀ n2 : Nat, n2 < 7 → ck 75 138 [.int 1, .int 3, .int (Int32.ofInt (0 + (n2 : Int)))] = true := by decide +kernel
set_option maxRecDepth 1000000 in
theorem bx_stone_11 : ∀ n2 : Nat, n2 < 7 → ck 75 138 [.int 1, .int 4, .int (Int32.ofInt (0 + (n2 : Int)))] = true := by decide +kernel
set_option maxRecDepth 1000000 in
theorem bx_stone_12 : ∀ n1 : Nat, n1 < 2 → ∀ n2 : Nat, n2 < 7 → ck 75 138 [.int 1, .int (Int32.ofInt (5 + (n1 : Int))), .int (Int32.ofInt (0 + (n2 : Int)))] = true := by decide +kernel
set_option maxRecDepth 1000000 in
theorem bx_stone_13 : ∀ n2 : Nat, n2 < 7 → ck 75 138 [.int 2, .int 0, .int (Int32.ofInt (0 + (n2 : Int)))] = true := by decide +kernel
set_option maxRecDepth 1000000 in
theorem bx_stone_14 : ∀ n2 : Nat, n2 < 7 → ck 75 138 [.int 2, .int 1, .int (Int32.ofInt (0 + (n2 : Int)))] = true := by decide +kernel
set_option maxRecDepth 1000000 in
theorem bx_stone_15 : ∀ n2 : Nat, n2 < 7 → ck 75 138 [.int 2, .int 2, .int (Int32.ofInt (0 + (n2 : Int)))] = true := by decide +kernel
set_option maxRecDepth 1000000 in
theorem bx_stone_16 : ∀ n2 : Nat, n2 < 7 → ck 75 138 [.int 2, .int 3, .int (Int32.ofInt (0 + (n2 : Int)))] = true := by decide +kernel
set_option maxRecDepth 1000000 in
theorem bx_stone_17 : ∀ n2 : Nat, n2 < 7 → ck 75 138 [.int 2, .int 4, .int (Int32.ofInt (0 + (n2 : Int)))] = true := by decide +kernel
set_option maxRecDepth 1000000 in
theorem bx_stone_18 : ∀ n1 : Nat, n1 < 2 → ∀ n2 : Nat, n2 < 7 → ck 75 138 [.int 2, .int (Int32.ofInt (5 + (n1 : Int))), .int (Int32.ofInt (0 + (n2 : Int)))] = true := by decide +kernel
set_option maxRecDepth 1000000 in
theorem bx_stone_19 : ∀ n2 : Nat, n2 < 7 → ck 75 138 [.int 3, .int 0, .int (Int32.ofInt (0 + (n2 : Int)))] = true := by decide +kernel
set_option maxRecDepth 1000000 in
theorem bx_stone_20 : ∀ n2 : Nat, n2 < 7 → ck 75 138 [.int 3, .int 1, .int (Int32.ofInt (0 + (n2 : Int)))] = true := by decide +kernel
set_option maxRecDepth 1000000 in
theorem bx_stone_21 : ∀ n2 : Nat, n2 < 7 → ck 75 138 [.int 3, .int 2, .int (Int32.ofInt (0 + (n2 : Int)))] = true := by decide +kernel
set_option maxRecDepth 1000000 in
theorem bx_stone_22 : ∀ n2 : Nat, n2 < 7 → ck 75 138 [.int 3, .int 3, .int (Int32.ofInt (0 + (n2 : Int)))] = true := by decide +kernel
set_option maxRecDepth 1000000 in
theorem bx_stone_23 : ∀ n2 : Nat, n2 < 7 → ck 75 138 [.int 3, .int 4, .int (Int32.ofInt (0 + (n2 : Int)))] = true := by decide +kernel
set_option maxRecDepth 1000000 in
theorem bx_stone_24 : ∀ n1 : Nat, n1 < 2 → ∀ n2 : Nat, n2 < 7 → ck 75 138 [.int 3, .int (Int32.ofInt (5 + (n1 : Int))), .int (Int32.ofInt (0 + (n2 : Int)))] = true := by decide +kernel
set_option maxRecDepth 1000000 in
theorem bx_stone_25 : ∀ n2 : Nat, n2 < 7 → ck 75 138 [.int 4, .int 0, .int (Int32.ofInt (0 + (n2 : Int)))] = true := by decide +kernel
set_option maxRecDepth 1000000 in
theorem bx_stone_26 : ∀ n2 : Nat, n2 < 7 → ck 75 138 [.int 4, .int 1, .int (Int32.ofInt (0 + (n2 : Int)))] = true := by decide +kernel
set_option maxRecDepth 1000000 in
theorem bx_stone_27 : ∀ n2 : Nat, n2 < 7 → ck 75 138 [.int 4, .int 2, .int (Int32.ofInt (0 + (n2 : Int)))] = true := by decide +kernel
set_option maxRecDepth 1000000 in
theorem bx_stone_28 : ∀ n2 : Nat, n2 < 7 → ck 75 138 [.int 4, .int 3, .int (Int32.ofInt (0 + (n2 : Int)))] = true := by decide +kernel
set_option maxRecDepth 1000000 in
theorem bx_stone_29 : ∀ n2 : Nat, n2 < 7 → ck 75 138 [.int 4, .int 4, .int (Int32.ofInt (0 + (n2 : Int)))] = true := by decide +kernel
set_option maxRecDepth 1000000 in
theorem bx_stone_30 : ∀ n1 : Nat, n1 < 2 → ∀ n2 : Nat, n2 < 7 → ck 75 138 [.int 4, .int (Int32.ofInt (5 + (n1 : Int))), .int (Int32.ofInt (0 + (n2 : Int)))] = true := by decide +kernel
set_option maxRecDepth 1000000 in
theorem bx_stone_31 : ∀ n2 : Nat, n2 < 7 → ck 75 138 [.int 5, .int 0, .int (Int32.ofInt (0 + (n2 : Int)))] = true := by decide +kernel
set_option maxRecDepth 1000000 in
theorem bx_stone_32 : ∀ n2 : Nat, n2 < 7 → ck 75 138 [.int 5, .int 1, .int (Int32.ofInt (0 + (n2 : Int)))] = true := by decide +kernel
set_option maxRecDepth 1000000 in
theorem bx_stone_33 : ∀ n2 : Nat, n2 < 7 → ck 75 138 [.int 5, .int 2, .int (Int32.ofInt (0 + (n2 : Int)))] = true := by decide +kernel
set_option maxRecDepth 1000000 in
theorem bx_stone_34 : ∀ n2 : Nat, n2 < 7 → ck 75 138 [.int 5, .int 3, .int (Int32.ofInt (0 + (n2 : Int)))] = true := by decide +kernel
set_option maxRecDepth 1000000 in
theorem bx_stone_35 : ∀ n2 : Nat, n2 < 7 → ck 75 138 [.int 5, .int 4, .int (Int32.ofInt (0 + (n2 : Int)))] = true := by decide +kernel
set_option maxRecDepth 1000000 in
theorem bx_stone_36 : ∀ n1 : Nat, n1 < 2 → ∀ n2 : Nat, n2 < 7 → ck 75 138 [.int 5, .int (Int32.ofInt (5 + (n1 : Int))), .int (Int32.ofInt (0 + (n2 : Int)))] = true := by decide +kernel
set_option maxRecDepth 1000000 in
set_option maxHeartbeats 40000000 in
theorem p1_stone (a b c : Int32) : P1 75 138 [.int a, .int b, .int c] := by
  have hla : -2147483648 ≤ a.toInt := ia_lo a
  have hha : a.toInt ≤ 2147483647 := ia_hi a
  have hlb : -2147483648 ≤ b.toInt := ia_lo b
  have hhb : b.toInt ≤ 2147483647 := ia_hi b
  have hlc : -2147483648 ≤ c.toInt := ia_lo c
  have hhc : c.toInt ≤ 2147483647 := ia_hi c
  rcases ia_cut (c := 0) hla hha with ⟨hla, hha⟩ | ⟨hla, hha⟩
  ·
    apply p1_intro (v := (-1000000001))
    case h1 =>
      apply ex_X8_stone
      refine rn_step rfl ?_
      refine rb_iload rfl ?_
      refine rb_push ?_
      refine rb_push ?_
      apply rb_callS3
      case hcl => exact rfl
      case hc =>
        apply ex_X8_within
        refine rn_step rfl ?_
        refine rb_iload rfl ?_
        refine rb_iload rfl ?_
        refine rb_clt (fun _ => ?_) (fun h => absurd (ia_lt hha (by decide)) h)
        refine rn_step rfl ?_
        refine rb_push ?_
        refine rb_goto ?_
        refine rn_step rfl ?_
        refine rb_ret rfl rfl
      refine rb_ieq (fun _ => ?_) (fun h => absurd (by decide) h)
      refine rn_step rfl ?_
      refine rb_push ?_
      refine rb_ret rfl rfl
    case h2 =>
      apply ex_X9_stone
      refine rn_step rfl ?_
      refine rb_iload rfl ?_
      refine rb_push ?_
      refine rb_push ?_
      apply rb_callS3
      case hcl => exact rfl
      case hc =>
        apply ex_X9_in
        refine rn_step rfl ?_
        refine rb_iload rfl ?_
        refine rb_iload rfl ?_
        refine rb_clt (fun _ => ?_) (fun h => absurd (ia_lt hha (by decide)) h)
        refine rn_step rfl ?_
        refine rb_push ?_
        refine rb_goto ?_
        refine rn_step rfl ?_
        refine rb_ret rfl rfl
      refine rb_ieq (fun _ => ?_) (fun h => absurd (by decide) h)
      refine rn_step rfl ?_
      refine rb_push ?_
      refine rb_ret rfl rfl
    case h3 => exact s1_ok
    case h4 => exact rfl
  ·
    rcases ia_cut (c := 6) hla hha with ⟨hla, hha⟩ | ⟨hla, hha⟩
    ·
      rcases ia_cut (c := 0) hlb hhb with ⟨hlb, hhb⟩ | ⟨hlb, hhb⟩
      ·
        apply p1_intro (v := (-1000000001))
        case h1 =>
          apply ex_X8_stone
          refine rn_step rfl ?_
          refine rb_iload rfl ?_
          refine rb_push ?_
          refine rb_push ?_
          apply rb_callS3
          case hcl => exact rfl
          case hc =>
            apply ex_X8_within
            refine rn_step rfl ?_
            refine rb_iload rfl ?_
            refine rb_iload rfl ?_
            refine rb_clt (fun h => absurd h (ia_nlt hla (by decide))) (fun _ => ?_)
            refine rb_iload rfl ?_
            refine rb_iload rfl ?_
            refine rb_cgt (fun h => absurd h (ia_ngt hha (by decide))) (fun _ => ?_)
            refine rb_push ?_
            refine rb_goto ?_
            refine rn_step rfl ?_
            refine rb_ret rfl rfl
          refine rb_ieq (fun h => absurd h (by decide)) (fun _ => ?_)
          refine rb_iload rfl ?_
          refine rb_push ?_
          refine rb_push ?_
          apply rb_callS3
          case hcl => exact rfl
          case hc =>
            apply ex_X8_within
            refine rn_step rfl ?_
            refine rb_iload rfl ?_
            refine rb_iload rfl ?_
            refine rb_clt (fun _ => ?_) (fun h => absurd (ia_lt hhb (by decide)) h)
            refine rn_step rfl ?_
            refine rb_push ?_
            refine rb_goto ?_
            refine rn_step rfl ?_
            refine rb_ret rfl rfl
          refine rb_ieq (fun _ => ?_) (fun h => absurd (by decide) h)
          refine rn_step rfl ?_
          refine rb_push ?_
          refine rb_ret rfl rfl
        case h2 =>
          apply ex_X9_stone
          refine rn_step rfl ?_
          refine rb_iload rfl ?_
          refine rb_push ?_
          refine rb_push ?_
          apply rb_callS3
          case hcl => exact rfl
          case hc =>
            apply ex_X9_in
            refine rn_step rfl ?_
            refine rb_iload rfl ?_
            refine rb_iload rfl ?_
            refine rb_clt (fun h => absurd h (ia_nlt hla (by decide))) (fun _ => ?_)
            refine rb_iload rfl ?_
            refine rb_iload rfl ?_
            refine rb_cgt (fun h => absurd h (ia_ngt hha (by decide))) (fun _ => ?_)
            refine rb_push ?_
            refine rb_goto ?_
            refine rn_step rfl ?_
            refine rb_ret rfl rfl
          refine rb_ieq (fun h => absurd h (by decide)) (fun _ => ?_)
          refine rb_iload rfl ?_
          refine rb_push ?_
          refine rb_push ?_
          apply rb_callS3
          case hcl => exact rfl
          case hc =>
            apply ex_X9_in
            refine rn_step rfl ?_
            refine rb_iload rfl ?_
            refine rb_iload rfl ?_
            refine rb_clt (fun _ => ?_) (fun h => absurd (ia_lt hhb (by decide)) h)
            refine rn_step rfl ?_
            refine rb_push ?_
            refine rb_goto ?_
            refine rn_step rfl ?_
            refine rb_ret rfl rfl
          refine rb_ieq (fun _ => ?_) (fun h => absurd (by decide) h)
          refine rn_step rfl ?_
          refine rb_push ?_
          refine rb_ret rfl rfl
        case h3 => exact s1_ok
        case h4 => exact rfl
      ·
        rcases ia_cut (c := 7) hlb hhb with ⟨hlb, hhb⟩ | ⟨hlb, hhb⟩
        ·
          rcases ia_cut (c := 0) hlc hhc with ⟨hlc, hhc⟩ | ⟨hlc, hhc⟩
          ·
            apply p1_intro (v := (-1000000001))
            case h1 =>
              apply ex_X8_stone
              refine rn_step rfl ?_
              refine rb_iload rfl ?_
              refine rb_push ?_
              refine rb_push ?_
              apply rb_callS3
              case hcl => exact rfl
              case hc =>
                apply ex_X8_within
                refine rn_step rfl ?_
                refine rb_iload rfl ?_
                refine rb_iload rfl ?_
                refine rb_clt (fun h => absurd h (ia_nlt hla (by decide))) (fun _ => ?_)
                refine rb_iload rfl ?_
                refine rb_iload rfl ?_
                refine rb_cgt (fun h => absurd h (ia_ngt hha (by decide))) (fun _ => ?_)
                refine rb_push ?_
                refine rb_goto ?_
                refine rn_step rfl ?_
                refine rb_ret rfl rfl
              refine rb_ieq (fun h => absurd h (by decide)) (fun _ => ?_)
              refine rb_iload rfl ?_
              refine rb_push ?_
              refine rb_push ?_
              apply rb_callS3
              case hcl => exact rfl
              case hc =>
                apply ex_X8_within
                refine rn_step rfl ?_
                refine rb_iload rfl ?_
                refine rb_iload rfl ?_
                refine rb_clt (fun h => absurd h (ia_nlt hlb (by decide))) (fun _ => ?_)
                refine rb_iload rfl ?_
                refine rb_iload rfl ?_
                refine rb_cgt (fun h => absurd h (ia_ngt hhb (by decide))) (fun _ => ?_)
                refine rb_push ?_
                refine rb_goto ?_
                refine rn_step rfl ?_
                refine rb_ret rfl rfl
              refine rb_ieq (fun h => absurd h (by decide)) (fun _ => ?_)
              refine rb_iload rfl ?_
              refine rb_push ?_
              refine rb_push ?_
              apply rb_callS3
              case hcl => exact rfl
              case hc =>
                apply ex_X8_within
                refine rn_step rfl ?_
                refine rb_iload rfl ?_
                refine rb_iload rfl ?_
                refine rb_clt (fun _ => ?_) (fun h => absurd (ia_lt hhc (by decide)) h)
                refine rn_step rfl ?_
                refine rb_push ?_
                refine rb_goto ?_
                refine rn_step rfl ?_
                refine rb_ret rfl rfl
              refine rb_ine (fun h => absurd (by decide) h) (fun _ => ?_)
              refine rb_goto ?_
              refine rn_step rfl ?_
              refine rb_push ?_
              refine rb_ret rfl rfl
            case h2 =>
              apply ex_X9_stone
              refine rn_step rfl ?_
              refine rb_iload rfl ?_
              refine rb_push ?_
              refine rb_push ?_
              apply rb_callS3
              case hcl => exact rfl
              case hc =>
                apply ex_X9_in
                refine rn_step rfl ?_
                refine rb_iload rfl ?_
                refine rb_iload rfl ?_
                refine rb_clt (fun h => absurd h (ia_nlt hla (by decide))) (fun _ => ?_)
                refine rb_iload rfl ?_
                refine rb_iload rfl ?_
                refine rb_cgt (fun h => absurd h (ia_ngt hha (by decide))) (fun _ => ?_)
                refine rb_push ?_
                refine rb_goto ?_
                refine rn_step rfl ?_
                refine rb_ret rfl rfl
              refine rb_ieq (fun h => absurd h (by decide)) (fun _ => ?_)
              refine rb_iload rfl ?_
              refine rb_push ?_
              refine rb_push ?_
              apply rb_callS3
              case hcl => exact rfl
              case hc =>
                apply ex_X9_in
                refine rn_step rfl ?_
                refine rb_iload rfl ?_
                refine rb_iload rfl ?_
                refine rb_clt (fun h => absurd h (ia_nlt hlb (by decide))) (fun _ => ?_)
                refine rb_iload rfl ?_
                refine rb_iload rfl ?_
                refine rb_cgt (fun h => absurd h (ia_ngt hhb (by decide))) (fun _ => ?_)
                refine rb_push ?_
                refine rb_goto ?_
                refine rn_step rfl ?_
                refine rb_ret rfl rfl
              refine rb_ieq (fun h => absurd h (by decide)) (fun _ => ?_)
              refine rb_iload rfl ?_
              refine rb_push ?_
              refine rb_push ?_
              apply rb_callS3
              case hcl => exact rfl
              case hc =>
                apply ex_X9_in
                refine rn_step rfl ?_
                refine rb_iload rfl ?_
                refine rb_iload rfl ?_
                refine rb_clt (fun _ => ?_) (fun h => absurd (ia_lt hhc (by decide)) h)
                refine rn_step rfl ?_
                refine rb_push ?_
                refine rb_goto ?_
                refine rn_step rfl ?_
                refine rb_ret rfl rfl
              refine rb_ine (fun h => absurd (by decide) h) (fun _ => ?_)
              refine rb_goto ?_
              refine rn_step rfl ?_
              refine rb_push ?_
              refine rb_ret rfl rfl
            case h3 => exact s1_ok
            case h4 => exact rfl
          ·
            rcases ia_cut (c := 7) hlc hhc with ⟨hlc, hhc⟩ | ⟨hlc, hhc⟩
            ·
              rcases ia_cut (c := 1) hla hha with ⟨hla, hha⟩ | ⟨hla, hha⟩
              ·
                obtain rfl : a = 0 := ia_one hla hha (by decide) (by decide)
                rcases ia_cut (c := 1) hlb hhb with ⟨hlb, hhb⟩ | ⟨hlb, hhb⟩
                ·
                  obtain rfl : b = 0 := ia_one hlb hhb (by decide) (by decide)
                  -- box [(0, 0), (0, 0), (0, 6)]
                  obtain ⟨n2, hn2, rfl⟩ := ia_box (l := 0) (m := 7) hlc hhc (by decide) (by decide)
                  exact ck_ok (bx_stone_1 n2 hn2)
                ·
                  rcases ia_cut (c := 2) hlb hhb with ⟨hlb, hhb⟩ | ⟨hlb, hhb⟩
                  ·
                    obtain rfl : b = 1 := ia_one hlb hhb (by decide) (by decide)
                    -- box [(0, 0), (1, 1), (0, 6)]
                    obtain ⟨n2, hn2, rfl⟩ := ia_box (l := 0) (m := 7) hlc hhc (by decide) (by decide)
                    exact ck_ok (bx_stone_2 n2 hn2)
                  ·
                    rcases ia_cut (c := 3) hlb hhb with ⟨hlb, hhb⟩ | ⟨hlb, hhb⟩
                    ·
                      obtain rfl : b = 2 := ia_one hlb hhb (by decide) (by decide)
                      -- box [(0, 0), (2, 2), (0, 6)]
                      obtain ⟨n2, hn2, rfl⟩ := ia_box (l := 0) (m := 7) hlc hhc (by decide) (by decide)
                      exact ck_ok (bx_stone_3 n2 hn2)
                    ·
                      rcases ia_cut (c := 4) hlb hhb with ⟨hlb, hhb⟩ | ⟨hlb, hhb⟩
                      ·
                        obtain rfl : b = 3 := ia_one hlb hhb (by decide) (by decide)
                        -- box [(0, 0), (3, 3), (0, 6)]
                        obtain ⟨n2, hn2, rfl⟩ := ia_box (l := 0) (m := 7) hlc hhc (by decide) (by decide)
                        exact ck_ok (bx_stone_4 n2 hn2)
                      ·
                        rcases ia_cut (c := 5) hlb hhb with ⟨hlb, hhb⟩ | ⟨hlb, hhb⟩
                        ·
                          obtain rfl : b = 4 := ia_one hlb hhb (by decide) (by decide)
                          -- box [(0, 0), (4, 4), (0, 6)]
                          obtain ⟨n2, hn2, rfl⟩ := ia_box (l := 0) (m := 7) hlc hhc (by decide) (by decide)
                          exact ck_ok (bx_stone_5 n2 hn2)
                        ·
                          -- box [(0, 0), (5, 6), (0, 6)]
                          obtain ⟨n1, hn1, rfl⟩ := ia_box (l := 5) (m := 2) hlb hhb (by decide) (by decide)
                          obtain ⟨n2, hn2, rfl⟩ := ia_box (l := 0) (m := 7) hlc hhc (by decide) (by decide)
                          exact ck_ok (bx_stone_6 n1 hn1 n2 hn2)
              ·
                rcases ia_cut (c := 2) hla hha with ⟨hla, hha⟩ | ⟨hla, hha⟩
                ·
                  obtain rfl : a = 1 := ia_one hla hha (by decide) (by decide)
                  rcases ia_cut (c := 1) hlb hhb with ⟨hlb, hhb⟩ | ⟨hlb, hhb⟩
                  ·
                    obtain rfl : b = 0 := ia_one hlb hhb (by decide) (by decide)
                    -- box [(1, 1), (0, 0), (0, 6)]
                    obtain ⟨n2, hn2, rfl⟩ := ia_box (l := 0) (m := 7) hlc hhc (by decide) (by decide)
                    exact ck_ok (bx_stone_7 n2 hn2)
                  ·
                    rcases ia_cut (c := 2) hlb hhb with ⟨hlb, hhb⟩ | ⟨hlb, hhb⟩
                    ·
                      obtain rfl : b = 1 := ia_one hlb hhb (by decide) (by decide)
                      -- box [(1, 1), (1, 1), (0, 6)]
                      obtain ⟨n2, hn2, rfl⟩ := ia_box (l := 0) (m := 7) hlc hhc (by decide) (by decide)
                      exact ck_ok (bx_stone_8 n2 hn2)
                    ·
                      rcases ia_cut (c := 3) hlb hhb with ⟨hlb, hhb⟩ | ⟨hlb, hhb⟩
                      ·
                        obtain rfl : b = 2 := ia_one hlb hhb (by decide) (by decide)
                        -- box [(1, 1), (2, 2), (0, 6)]
                        obtain ⟨n2, hn2, rfl⟩ := ia_box (l := 0) (m := 7) hlc hhc (by decide) (by decide)
                        exact ck_ok (bx_stone_9 n2 hn2)
                      ·
                        rcases ia_cut (c := 4) hlb hhb with ⟨hlb, hhb⟩ | ⟨hlb, hhb⟩
                        ·
                          obtain rfl : b = 3 := ia_one hlb hhb (by decide) (by decide)
                          -- box [(1, 1), (3, 3), (0, 6)]
                          obtain ⟨n2, hn2, rfl⟩ := ia_box (l := 0) (m := 7) hlc hhc (by decide) (by decide)
                          exact ck_ok (bx_stone_10 n2 hn2)
                        ·
                          rcases ia_cut (c := 5) hlb hhb with ⟨hlb, hhb⟩ | ⟨hlb, hhb⟩
                          ·
                            obtain rfl : b = 4 := ia_one hlb hhb (by decide) (by decide)
                            -- box [(1, 1), (4, 4), (0, 6)]
                            obtain ⟨n2, hn2, rfl⟩ := ia_box (l := 0) (m := 7) hlc hhc (by decide) (by decide)
                            exact ck_ok (bx_stone_11 n2 hn2)
                          ·
                            -- box [(1, 1), (5, 6), (0, 6)]
                            obtain ⟨n1, hn1, rfl⟩ := ia_box (l := 5) (m := 2) hlb hhb (by decide) (by decide)
                            obtain ⟨n2, hn2, rfl⟩ := ia_box (l := 0) (m := 7) hlc hhc (by decide) (by decide)
                            exact ck_ok (bx_stone_12 n1 hn1 n2 hn2)
                ·
                  rcases ia_cut (c := 3) hla hha with ⟨hla, hha⟩ | ⟨hla, hha⟩
                  ·
                    obtain rfl : a = 2 := ia_one hla hha (by decide) (by decide)
                    rcases ia_cut (c := 1) hlb hhb with ⟨hlb, hhb⟩ | ⟨hlb, hhb⟩
                    ·
                      obtain rfl : b = 0 := ia_one hlb hhb (by decide) (by decide)
                      -- box [(2, 2), (0, 0), (0, 6)]
                      obtain ⟨n2, hn2, rfl⟩ := ia_box (l := 0) (m := 7) hlc hhc (by decide) (by decide)
                      exact ck_ok (bx_stone_13 n2 hn2)
                    ·
                      rcases ia_cut (c := 2) hlb hhb with ⟨hlb, hhb⟩ | ⟨hlb, hhb⟩
                      ·
                        obtain rfl : b = 1 := ia_one hlb hhb (by decide) (by decide)
                        -- box [(2, 2), (1, 1), (0, 6)]
                        obtain ⟨n2, hn2, rfl⟩ := ia_box (l := 0) (m := 7) hlc hhc (by decide) (by decide)
                        exact ck_ok (bx_stone_14 n2 hn2)
                      ·
                        rcases ia_cut (c := 3) hlb hhb with ⟨hlb, hhb⟩ | ⟨hlb, hhb⟩
                        ·
                          obtain rfl : b = 2 := ia_one hlb hhb (by decide) (by decide)
                          -- box [(2, 2), (2, 2), (0, 6)]
                          obtain ⟨n2, hn2, rfl⟩ := ia_box (l := 0) (m := 7) hlc hhc (by decide) (by decide)
                          exact ck_ok (bx_stone_15 n2 hn2)
                        ·
                          rcases ia_cut (c := 4) hlb hhb with ⟨hlb, hhb⟩ | ⟨hlb, hhb⟩
                          ·
                            obtain rfl : b = 3 := ia_one hlb hhb (by decide) (by decide)
                            -- box [(2, 2), (3, 3), (0, 6)]
                            obtain ⟨n2, hn2, rfl⟩ := ia_box (l := 0) (m := 7) hlc hhc (by decide) (by decide)
                            exact ck_ok (bx_stone_16 n2 hn2)
                          ·
                            rcases ia_cut (c := 5) hlb hhb with ⟨hlb, hhb⟩ | ⟨hlb, hhb⟩
                            ·
                              obtain rfl : b = 4 := ia_one hlb hhb (by decide) (by decide)
                              -- box [(2, 2), (4, 4), (0, 6)]
                              obtain ⟨n2, hn2, rfl⟩ := ia_box (l := 0) (m := 7) hlc hhc (by decide) (by decide)
                              exact ck_ok (bx_stone_17 n2 hn2)
                            ·
                              -- box [(2, 2), (5, 6), (0, 6)]
                              obtain ⟨n1, hn1, rfl⟩ := ia_box (l := 5) (m := 2) hlb hhb (by decide) (by decide)
                              obtain ⟨n2, hn2, rfl⟩ := ia_box (l := 0) (m := 7) hlc hhc (by decide) (by decide)
                              exact ck_ok (bx_stone_18 n1 hn1 n2 hn2)
                  ·
                    rcases ia_cut (c := 4) hla hha with ⟨hla, hha⟩ | ⟨hla, hha⟩
                    ·
                      obtain rfl : a = 3 := ia_one hla hha (by decide) (by decide)
                      rcases ia_cut (c := 1) hlb hhb with ⟨hlb, hhb⟩ | ⟨hlb, hhb⟩
                      ·
                        obtain rfl : b = 0 := ia_one hlb hhb (by decide) (by decide)
                        -- box [(3, 3), (0, 0), (0, 6)]
                        obtain ⟨n2, hn2, rfl⟩ := ia_box (l := 0) (m := 7) hlc hhc (by decide) (by decide)
                        exact ck_ok (bx_stone_19 n2 hn2)
                      ·
                        rcases ia_cut (c := 2) hlb hhb with ⟨hlb, hhb⟩ | ⟨hlb, hhb⟩
                        ·
                          obtain rfl : b = 1 := ia_one hlb hhb (by decide) (by decide)
                          -- box [(3, 3), (1, 1), (0, 6)]
                          obtain ⟨n2, hn2, rfl⟩ := ia_box (l := 0) (m := 7) hlc hhc (by decide) (by decide)
                          exact ck_ok (bx_stone_20 n2 hn2)
                        ·
                          rcases ia_cut (c := 3) hlb hhb with ⟨hlb, hhb⟩ | ⟨hlb, hhb⟩
                          ·
                            obtain rfl : b = 2 := ia_one hlb hhb (by decide) (by decide)
                            -- box [(3, 3), (2, 2), (0, 6)]
                            obtain ⟨n2, hn2, rfl⟩ := ia_box (l := 0) (m := 7) hlc hhc (by decide) (by decide)
                            exact ck_ok (bx_stone_21 n2 hn2)
                          ·
                            rcases ia_cut (c := 4) hlb hhb with ⟨hlb, hhb⟩ | ⟨hlb, hhb⟩
                            ·
                              obtain rfl : b = 3 := ia_one hlb hhb (by decide) (by decide)
                              -- box [(3, 3), (3, 3), (0, 6)]
                              obtain ⟨n2, hn2, rfl⟩ := ia_box (l := 0) (m := 7) hlc hhc (by decide) (by decide)
                              exact ck_ok (bx_stone_22 n2 hn2)
                            ·
                              rcases ia_cut (c := 5) hlb hhb with ⟨hlb, hhb⟩ | ⟨hlb, hhb⟩
                              ·
                                obtain rfl : b = 4 := ia_one hlb hhb (by decide) (by decide)
                                -- box [(3, 3), (4, 4), (0, 6)]
                                obtain ⟨n2, hn2, rfl⟩ := ia_box (l := 0) (m := 7) hlc hhc (by decide) (by decide)
                                exact ck_ok (bx_stone_23 n2 hn2)
                              ·
                                -- box [(3, 3), (5, 6), (0, 6)]
                                obtain ⟨n1, hn1, rfl⟩ := ia_box (l := 5) (m := 2) hlb hhb (by decide) (by decide)
                                obtain ⟨n2, hn2, rfl⟩ := ia_box (l := 0) (m := 7) hlc hhc (by decide) (by decide)
                                exact ck_ok (bx_stone_24 n1 hn1 n2 hn2)
                    ·
                      rcases ia_cut (c := 5) hla hha with ⟨hla, hha⟩ | ⟨hla, hha⟩
                      ·
                        obtain rfl : a = 4 := ia_one hla hha (by decide) (by decide)
                        rcases ia_cut (c := 1) hlb hhb with ⟨hlb, hhb⟩ | ⟨hlb, hhb⟩
                        ·
                          obtain rfl : b = 0 := ia_one hlb hhb (by decide) (by decide)
                          -- box [(4, 4), (0, 0), (0, 6)]
                          obtain ⟨n2, hn2, rfl⟩ := ia_box (l := 0) (m := 7) hlc hhc (by decide) (by decide)
                          exact ck_ok (bx_stone_25 n2 hn2)
                        ·
                          rcases ia_cut (c := 2) hlb hhb with ⟨hlb, hhb⟩ | ⟨hlb, hhb⟩
                          ·
                            obtain rfl : b = 1 := ia_one hlb hhb (by decide) (by decide)
                            -- box [(4, 4), (1, 1), (0, 6)]
                            obtain ⟨n2, hn2, rfl⟩ := ia_box (l := 0) (m := 7) hlc hhc (by decide) (by decide)
                            exact ck_ok (bx_stone_26 n2 hn2)
                          ·
                            rcases ia_cut (c := 3) hlb hhb with ⟨hlb, hhb⟩ | ⟨hlb, hhb⟩
                            ·
                              obtain rfl : b = 2 := ia_one hlb hhb (by decide) (by decide)
                              -- box [(4, 4), (2, 2), (0, 6)]
                              obtain ⟨n2, hn2, rfl⟩ := ia_box (l := 0) (m := 7) hlc hhc (by decide) (by decide)
                              exact ck_ok (bx_stone_27 n2 hn2)
                            ·
                              rcases ia_cut (c := 4) hlb hhb with ⟨hlb, hhb⟩ | ⟨hlb, hhb⟩
                              ·
                                obtain rfl : b = 3 := ia_one hlb hhb (by decide) (by decide)
                                -- box [(4, 4), (3, 3), (0, 6)]
                                obtain ⟨n2, hn2, rfl⟩ := ia_box (l := 0) (m := 7) hlc hhc (by decide) (by decide)
                                exact ck_ok (bx_stone_28 n2 hn2)
                              ·
                                rcases ia_cut (c := 5) hlb hhb with ⟨hlb, hhb⟩ | ⟨hlb, hhb⟩
                                ·
                                  obtain rfl : b = 4 := ia_one hlb hhb (by decide) (by decide)
                                  -- box [(4, 4), (4, 4), (0, 6)]
                                  obtain ⟨n2, hn2, rfl⟩ := ia_box (l := 0) (m := 7) hlc hhc (by decide) (by decide)
                                  exact ck_ok (bx_stone_29 n2 hn2)
                                ·
                                  -- box [(4, 4), (5, 6), (0, 6)]
                                  obtain ⟨n1, hn1, rfl⟩ := ia_box (l := 5) (m := 2) hlb hhb (by decide) (by decide)
                                  obtain ⟨n2, hn2, rfl⟩ := ia_box (l := 0) (m := 7) hlc hhc (by decide) (by decide)
                                  exact ck_ok (bx_stone_30 n1 hn1 n2 hn2)
                      ·
                        obtain rfl : a = 5 := ia_one hla hha (by decide) (by decide)
                        rcases ia_cut (c := 1) hlb hhb with ⟨hlb, hhb⟩ | ⟨hlb, hhb⟩
                        ·
                          obtain rfl : b = 0 := ia_one hlb hhb (by decide) (by decide)
                          -- box [(5, 5), (0, 0), (0, 6)]
                          obtain ⟨n2, hn2, rfl⟩ := ia_box (l := 0) (m := 7) hlc hhc (by decide) (by decide)
                          exact ck_ok (bx_stone_31 n2 hn2)
                        ·
                          rcases ia_cut (c := 2) hlb hhb with ⟨hlb, hhb⟩ | ⟨hlb, hhb⟩
                          ·
                            obtain rfl : b = 1 := ia_one hlb hhb (by decide) (by decide)
                            -- box [(5, 5), (1, 1), (0, 6)]
                            obtain ⟨n2, hn2, rfl⟩ := ia_box (l := 0) (m := 7) hlc hhc (by decide) (by decide)
                            exact ck_ok (bx_stone_32 n2 hn2)
                          ·
                            rcases ia_cut (c := 3) hlb hhb with ⟨hlb, hhb⟩ | ⟨hlb, hhb⟩
                            ·
                              obtain rfl : b = 2 := ia_one hlb hhb (by decide) (by decide)
                              -- box [(5, 5), (2, 2), (0, 6)]
                              obtain ⟨n2, hn2, rfl⟩ := ia_box (l := 0) (m := 7) hlc hhc (by decide) (by decide)
                              exact ck_ok (bx_stone_33 n2 hn2)
                            ·
                              rcases ia_cut (c := 4) hlb hhb with ⟨hlb, hhb⟩ | ⟨hlb, hhb⟩
                              ·
                                obtain rfl : b = 3 := ia_one hlb hhb (by decide) (by decide)
                                -- box [(5, 5), (3, 3), (0, 6)]
                                obtain ⟨n2, hn2, rfl⟩ := ia_box (l := 0) (m := 7) hlc hhc (by decide) (by decide)
                                exact ck_ok (bx_stone_34 n2 hn2)
                              ·
                                rcases ia_cut (c := 5) hlb hhb with ⟨hlb, hhb⟩ | ⟨hlb, hhb⟩
                                ·
                                  obtain rfl : b = 4 := ia_one hlb hhb (by decide) (by decide)
                                  -- box [(5, 5), (4, 4), (0, 6)]
                                  obtain ⟨n2, hn2, rfl⟩ := ia_box (l := 0) (m := 7) hlc hhc (by decide) (by decide)
                                  exact ck_ok (bx_stone_35 n2 hn2)
                                ·
                                  -- box [(5, 5), (5, 6), (0, 6)]
                                  obtain ⟨n1, hn1, rfl⟩ := ia_box (l := 5) (m := 2) hlb hhb (by decide) (by decide)
                                  obtain ⟨n2, hn2, rfl⟩ := ia_box (l := 0) (m := 7) hlc hhc (by decide) (by decide)
                                  exact ck_ok (bx_stone_36 n1 hn1 n2 hn2)
            ·
              apply p1_intro (v := (-1000000001))
              case h1 =>
                apply ex_X8_stone
                refine rn_step rfl ?_
                refine rb_iload rfl ?_
                refine rb_push ?_
                refine rb_push ?_
                apply rb_callS3
                case hcl => exact rfl
                case hc =>
                  apply ex_X8_within
                  refine rn_step rfl ?_
                  refine rb_iload rfl ?_
                  refine rb_iload rfl ?_
                  refine rb_clt (fun h => absurd h (ia_nlt hla (by decide))) (fun _ => ?_)
                  refine rb_iload rfl ?_
                  refine rb_iload rfl ?_
                  refine rb_cgt (fun h => absurd h (ia_ngt hha (by decide))) (fun _ => ?_)
                  refine rb_push ?_
                  refine rb_goto ?_
                  refine rn_step rfl ?_
                  refine rb_ret rfl rfl
                refine rb_ieq (fun h => absurd h (by decide)) (fun _ => ?_)
                refine rb_iload rfl ?_
                refine rb_push ?_
                refine rb_push ?_
                apply rb_callS3
                case hcl => exact rfl
                case hc =>
                  apply ex_X8_within
                  refine rn_step rfl ?_
                  refine rb_iload rfl ?_
                  refine rb_iload rfl ?_
                  refine rb_clt (fun h => absurd h (ia_nlt hlb (by decide))) (fun _ => ?_)
                  refine rb_iload rfl ?_
                  refine rb_iload rfl ?_
                  refine rb_cgt (fun h => absurd h (ia_ngt hhb (by decide))) (fun _ => ?_)
                  refine rb_push ?_
                  refine rb_goto ?_
                  refine rn_step rfl ?_
                  refine rb_ret rfl rfl
                refine rb_ieq (fun h => absurd h (by decide)) (fun _ => ?_)
                refine rb_iload rfl ?_
                refine rb_push ?_
                refine rb_push ?_
                apply rb_callS3
                case hcl => exact rfl
                case hc =>
                  apply ex_X8_within
                  refine rn_step rfl ?_
                  refine rb_iload rfl ?_
                  refine rb_iload rfl ?_
                  refine rb_clt (fun h => absurd h (ia_nlt hlc (by decide))) (fun _ => ?_)
                  refine rb_iload rfl ?_
                  refine rb_iload rfl ?_
                  refine rb_cgt (fun _ => ?_) (fun h => absurd (ia_gt hlc (by decide)) h)
                  refine rn_step rfl ?_
                  refine rb_push ?_
                  refine rb_goto ?_
                  refine rn_step rfl ?_
                  refine rb_ret rfl rfl
                refine rb_ine (fun h => absurd (by decide) h) (fun _ => ?_)
                refine rb_goto ?_
                refine rn_step rfl ?_
                refine rb_push ?_
                refine rb_ret rfl rfl
              case h2 =>
                apply ex_X9_stone
                refine rn_step rfl ?_
                refine rb_iload rfl ?_
                refine rb_push ?_
                refine rb_push ?_
                apply rb_callS3
                case hcl => exact rfl
                case hc =>
                  apply ex_X9_in
                  refine rn_step rfl ?_
                  refine rb_iload rfl ?_
                  refine rb_iload rfl ?_
                  refine rb_clt (fun h => absurd h (ia_nlt hla (by decide))) (fun _ => ?_)
                  refine rb_iload rfl ?_
                  refine rb_iload rfl ?_
                  refine rb_cgt (fun h => absurd h (ia_ngt hha (by decide))) (fun _ => ?_)
                  refine rb_push ?_
                  refine rb_goto ?_
                  refine rn_step rfl ?_
                  refine rb_ret rfl rfl
                refine rb_ieq (fun h => absurd h (by decide)) (fun _ => ?_)
                refine rb_iload rfl ?_
                refine rb_push ?_
                refine rb_push ?_
                apply rb_callS3
                case hcl => exact rfl
                case hc =>
                  apply ex_X9_in
                  refine rn_step rfl ?_
                  refine rb_iload rfl ?_
                  refine rb_iload rfl ?_
                  refine rb_clt (fun h => absurd h (ia_nlt hlb (by decide))) (fun _ => ?_)
                  refine rb_iload rfl ?_
                  refine rb_iload rfl ?_
                  refine rb_cgt (fun h => absurd h (ia_ngt hhb (by decide))) (fun _ => ?_)
                  refine rb_push ?_
                  refine rb_goto ?_
                  refine rn_step rfl ?_
                  refine rb_ret rfl rfl
                refine rb_ieq (fun h => absurd h (by decide)) (fun _ => ?_)
                refine rb_iload rfl ?_
                refine rb_push ?_
                refine rb_push ?_
                apply rb_callS3
                case hcl => exact rfl
                case hc =>
                  apply ex_X9_in
                  refine rn_step rfl ?_
                  refine rb_iload rfl ?_
                  refine rb_iload rfl ?_
                  refine rb_clt (fun h => absurd h (ia_nlt hlc (by decide))) (fun _ => ?_)
                  refine rb_iload rfl ?_
                  refine rb_iload rfl ?_
                  refine rb_cgt (fun _ => ?_) (fun h => absurd (ia_gt hlc (by decide)) h)
                  refine rn_step rfl ?_
                  refine rb_push ?_
                  refine rb_goto ?_
                  refine rn_step rfl ?_
                  refine rb_ret rfl rfl
                refine rb_ine (fun h => absurd (by decide) h) (fun _ => ?_)
                refine rb_goto ?_
                refine rn_step rfl ?_
                refine rb_push ?_
                refine rb_ret rfl rfl
              case h3 => exact s1_ok
              case h4 => exact rfl
        ·
          apply p1_intro (v := (-1000000001))
          case h1 =>
            apply ex_X8_stone
            refine rn_step rfl ?_
            refine rb_iload rfl ?_
            refine rb_push ?_
            refine rb_push ?_
            apply rb_callS3
            case hcl => exact rfl
            case hc =>
              apply ex_X8_within
              refine rn_step rfl ?_
              refine rb_iload rfl ?_
              refine rb_iload rfl ?_
              refine rb_clt (fun h => absurd h (ia_nlt hla (by decide))) (fun _ => ?_)
              refine rb_iload rfl ?_
              refine rb_iload rfl ?_
              refine rb_cgt (fun h => absurd h (ia_ngt hha (by decide))) (fun _ => ?_)
              refine rb_push ?_
              refine rb_goto ?_
              refine rn_step rfl ?_
              refine rb_ret rfl rfl
            refine rb_ieq (fun h => absurd h (by decide)) (fun _ => ?_)
            refine rb_iload rfl ?_
            refine rb_push ?_
            refine rb_push ?_
            apply rb_callS3
            case hcl => exact rfl
            case hc =>
              apply ex_X8_within
              refine rn_step rfl ?_
              refine rb_iload rfl ?_
              refine rb_iload rfl ?_
              refine rb_clt (fun h => absurd h (ia_nlt hlb (by decide))) (fun _ => ?_)
              refine rb_iload rfl ?_
              refine rb_iload rfl ?_
              refine rb_cgt (fun _ => ?_) (fun h => absurd (ia_gt hlb (by decide)) h)
              refine rn_step rfl ?_
              refine rb_push ?_
              refine rb_goto ?_
              refine rn_step rfl ?_
              refine rb_ret rfl rfl
            refine rb_ieq (fun _ => ?_) (fun h => absurd (by decide) h)
            refine rn_step rfl ?_
            refine rb_push ?_
            refine rb_ret rfl rfl
          case h2 =>
            apply ex_X9_stone
            refine rn_step rfl ?_
            refine rb_iload rfl ?_
            refine rb_push ?_
            refine rb_push ?_
            apply rb_callS3
            case hcl => exact rfl
            case hc =>
              apply ex_X9_in
              refine rn_step rfl ?_
              refine rb_iload rfl ?_
              refine rb_iload rfl ?_
              refine rb_clt (fun h => absurd h (ia_nlt hla (by decide))) (fun _ => ?_)
              refine rb_iload rfl ?_
              refine rb_iload rfl ?_
              refine rb_cgt (fun h => absurd h (ia_ngt hha (by decide))) (fun _ => ?_)
              refine rb_push ?_
              refine rb_goto ?_
              refine rn_step rfl ?_
              refine rb_ret rfl rfl
            refine rb_ieq (fun h => absurd h (by decide)) (fun _ => ?_)
            refine rb_iload rfl ?_
            refine rb_push ?_
            refine rb_push ?_
            apply rb_callS3
            case hcl => exact rfl
            case hc =>
              apply ex_X9_in
              refine rn_step rfl ?_
              refine rb_iload rfl ?_
              refine rb_iload rfl ?_
              refine rb_clt (fun h => absurd h (ia_nlt hlb (by decide))) (fun _ => ?_)
              refine rb_iload rfl ?_
              refine rb_iload rfl ?_
              refine rb_cgt (fun _ => ?_) (fun h => absurd (ia_gt hlb (by decide)) h)
              refine rn_step rfl ?_
              refine rb_push ?_
              refine rb_goto ?_
              refine rn_step rfl ?_
              refine rb_ret rfl rfl
            refine rb_ieq (fun _ => ?_) (fun h => absurd (by decide) h)
            refine rn_step rfl ?_
            refine rb_push ?_
            refine rb_ret rfl rfl
          case h3 => exact s1_ok
          case h4 => exact rfl
    ·
      apply p1_intro (v := (-1000000001))
      case h1 =>
        apply ex_X8_stone
        refine rn_step rfl ?_
        refine rb_iload rfl ?_
        refine rb_push ?_
        refine rb_push ?_
        apply rb_callS3
        case hcl => exact rfl
        case hc =>
          apply ex_X8_within
          refine rn_step rfl ?_
          refine rb_iload rfl ?_
          refine rb_iload rfl ?_
          refine rb_clt (fun h => absurd h (ia_nlt hla (by decide))) (fun _ => ?_)
          refine rb_iload rfl ?_
          refine rb_iload rfl ?_
          refine rb_cgt (fun _ => ?_) (fun h => absurd (ia_gt hla (by decide)) h)
          refine rn_step rfl ?_
          refine rb_push ?_
          refine rb_goto ?_
          refine rn_step rfl ?_
          refine rb_ret rfl rfl
        refine rb_ieq (fun _ => ?_) (fun h => absurd (by decide) h)
        refine rn_step rfl ?_
        refine rb_push ?_
        refine rb_ret rfl rfl
      case h2 =>
        apply ex_X9_stone
        refine rn_step rfl ?_
        refine rb_iload rfl ?_
        refine rb_push ?_
        refine rb_push ?_
        apply rb_callS3
        case hcl => exact rfl
        case hc =>
          apply ex_X9_in
          refine rn_step rfl ?_
          refine rb_iload rfl ?_
          refine rb_iload rfl ?_
          refine rb_clt (fun h => absurd h (ia_nlt hla (by decide))) (fun _ => ?_)
          refine rb_iload rfl ?_
          refine rb_iload rfl ?_
          refine rb_cgt (fun _ => ?_) (fun h => absurd (ia_gt hla (by decide)) h)
          refine rn_step rfl ?_
          refine rb_push ?_
          refine rb_goto ?_
          refine rn_step rfl ?_
          refine rb_ret rfl rfl
        refine rb_ieq (fun _ => ?_) (fun h => absurd (by decide) h)
        refine rn_step rfl ?_
        refine rb_push ?_
        refine rb_ret rfl rfl
      case h3 => exact s1_ok
      case h4 => exact rfl
