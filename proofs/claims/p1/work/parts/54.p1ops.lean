set_option maxRecDepth 1000000 in
set_option maxHeartbeats 40000000 in
theorem p1_feed (a b c : Int32) : P1 100 187 [.int a, .int b, .int c] := by
  have hla : -2147483648 ≤ a.toInt := ia_lo a
  have hha : a.toInt ≤ 2147483647 := ia_hi a
  have hlb : -2147483648 ≤ b.toInt := ia_lo b
  have hhb : b.toInt ≤ 2147483647 := ia_hi b
  have hlc : -2147483648 ≤ c.toInt := ia_lo c
  have hhc : c.toInt ≤ 2147483647 := ia_hi c
  apply p1_intro (v := 12)
  case h1 =>
    apply ex_X8_feed
    refine rn_step rfl ?_
    refine rb_aload rfl ?_
    refine rb_getf (v := .ref 37) rfl ?_
    refine rb_getf (v := .int 0) rfl ?_
    refine rb_push ?_
    refine rb_binL (z := 12) (by decide) ?_
    refine rb_push ?_
    refine rb_cle (fun _ => ?_) (fun h => absurd (by decide) h)
    refine rn_step rfl ?_
    refine rb_aload rfl ?_
    refine rb_getf (v := .ref 37) rfl ?_
    refine rb_iload rfl ?_
    apply rb_callV1v
    case hb => exact rfl
    case hcl => exact rfl
    case hc =>
      apply ex_X5_add
      refine rn_step rfl ?_
      refine rb_push ?_
      refine rb_istore (lv' := [some (.ref 37), some (.int (a)), some (.int 24)]) rfl ?_
      refine rb_goto ?_
      refine rn_step rfl ?_
      refine rb_iload rfl ?_
      refine rb_ilt (fun h => absurd h (by decide)) (fun _ => ?_)
      refine rb_aload rfl ?_
      refine rb_getf (v := .int 0) rfl ?_
      refine rb_push ?_
      refine rb_cge (fun h => absurd h (by decide)) (fun _ => ?_)
      refine rb_aload rfl ?_
      refine rb_getf (v := .ref 38) rfl ?_
      refine rb_aload rfl ?_
      refine rb_getf (v := .int 0) rfl ?_
      refine rb_iload rfl ?_
      refine rb_iload rfl ?_
      refine rb_ushr ?_
      refine rb_push ?_
      refine rb_and ?_
      refine rb_iastL (xs' := [(((((a).toUInt32 >>> (((24 : Int32)).toUInt32 &&& Int32.toUInt32 31)).toInt32)) &&& ((255 : Int32)))] ++ List.replicate 95 0) rfl (by decide) (ok_lt s1_ok (c := 38) (n := 96) (by decide) rfl (by decide) (by decide)) rfl (wa_38 _ _) ?_
      refine rb_aload rfl ?_
      refine rb_dupR ?_
      refine rb_getf (v := .int 0) rfl ?_
      refine rb_push ?_
      refine rb_binL (z := 1) (by decide) ?_
      refine rb_putI (pf_37_1 _ _) ?_
      refine rb_iinc (lv' := [some (.ref 37), some (.int (a)), some (.int 16)]) rfl rfl ?_
      refine rb_goto ?_
      refine rn_step rfl ?_
      refine rb_iload rfl ?_
      refine rb_ilt (fun h => absurd h (by decide)) (fun _ => ?_)
      refine rb_aload rfl ?_
      refine rb_getf (v := .int 1) rfl ?_
      refine rb_push ?_
      refine rb_cge (fun h => absurd h (by decide)) (fun _ => ?_)
      refine rb_aload rfl ?_
      refine rb_getf (v := .ref 38) rfl ?_
      refine rb_aload rfl ?_
      refine rb_getf (v := .int 1) rfl ?_
      refine rb_iload rfl ?_
      refine rb_iload rfl ?_
      refine rb_ushr ?_
      refine rb_push ?_
      refine rb_and ?_
      refine rb_iastL (xs' := [(((((a).toUInt32 >>> (((24 : Int32)).toUInt32 &&& Int32.toUInt32 31)).toInt32)) &&& ((255 : Int32))), (((((a).toUInt32 >>> (((16 : Int32)).toUInt32 &&& Int32.toUInt32 31)).toInt32)) &&& ((255 : Int32)))] ++ List.replicate 94 0) rfl (by decide) (ok_lt (okL.sI (okA s1_ok (c := 38) (n := 96) (by decide) rfl (by decide) rfl) _ _ _) (c := 38) (n := 96) (by decide) rfl (by decide) (by decide)) rfl (wa_38 _ _) ?_
      refine rb_aload rfl ?_
      refine rb_dupR ?_
      refine rb_getf (v := .int 1) rfl ?_
      refine rb_push ?_
      refine rb_binL (z := 2) (by decide) ?_
      refine rb_putI (pf_37_1 _ _) ?_
      refine rb_iinc (lv' := [some (.ref 37), some (.int (a)), some (.int 8)]) rfl rfl ?_
      refine rb_goto ?_
      refine rn_step rfl ?_
      refine rb_iload rfl ?_
      refine rb_ilt (fun h => absurd h (by decide)) (fun _ => ?_)
      refine rb_aload rfl ?_
      refine rb_getf (v := .int 2) rfl ?_
      refine rb_push ?_
      refine rb_cge (fun h => absurd h (by decide)) (fun _ => ?_)
      refine rb_aload rfl ?_
      refine rb_getf (v := .ref 38) rfl ?_
      refine rb_aload rfl ?_
      refine rb_getf (v := .int 2) rfl ?_
      refine rb_iload rfl ?_
      refine rb_iload rfl ?_
      refine rb_ushr ?_
      refine rb_push ?_
      refine rb_and ?_
      refine rb_iastL (xs' := [(((((a).toUInt32 >>> (((24 : Int32)).toUInt32 &&& Int32.toUInt32 31)).toInt32)) &&& ((255 : Int32))), (((((a).toUInt32 >>> (((16 : Int32)).toUInt32 &&& Int32.toUInt32 31)).toInt32)) &&& ((255 : Int32))), (((((a).toUInt32 >>> (((8 : Int32)).toUInt32 &&& Int32.toUInt32 31)).toInt32)) &&& ((255 : Int32)))] ++ List.replicate 93 0) rfl (by decide) (ok_lt (okL.sI (okA (okL.sI (okA s1_ok (c := 38) (n := 96) (by decide) rfl (by decide) rfl) _ _ _) (c := 38) (n := 96) (by decide) rfl (by decide) rfl) _ _ _) (c := 38) (n := 96) (by decide) rfl (by decide) (by decide)) rfl (wa_38 _ _) ?_
      refine rb_aload rfl ?_
      refine rb_dupR ?_
      refine rb_getf (v := .int 2) rfl ?_
      refine rb_push ?_
      refine rb_binL (z := 3) (by decide) ?_
      refine rb_putI (pf_37_1 _ _) ?_
      refine rb_iinc (lv' := [some (.ref 37), some (.int (a)), some (.int 0)]) rfl rfl ?_
      refine rb_goto ?_
      refine rn_step rfl ?_
      refine rb_iload rfl ?_
      refine rb_ilt (fun h => absurd h (by decide)) (fun _ => ?_)
      refine rb_aload rfl ?_
      refine rb_getf (v := .int 3) rfl ?_
      refine rb_push ?_
      refine rb_cge (fun h => absurd h (by decide)) (fun _ => ?_)
      refine rb_aload rfl ?_
      refine rb_getf (v := .ref 38) rfl ?_
      refine rb_aload rfl ?_
      refine rb_getf (v := .int 3) rfl ?_
      refine rb_iload rfl ?_
      refine rb_iload rfl ?_
      refine rb_ushr ?_
      refine rb_push ?_
      refine rb_and ?_
      refine rb_iastL (xs' := [(((((a).toUInt32 >>> (((24 : Int32)).toUInt32 &&& Int32.toUInt32 31)).toInt32)) &&& ((255 : Int32))), (((((a).toUInt32 >>> (((16 : Int32)).toUInt32 &&& Int32.toUInt32 31)).toInt32)) &&& ((255 : Int32))), (((((a).toUInt32 >>> (((8 : Int32)).toUInt32 &&& Int32.toUInt32 31)).toInt32)) &&& ((255 : Int32))), (((((a).toUInt32 >>> (((0 : Int32)).toUInt32 &&& Int32.toUInt32 31)).toInt32)) &&& ((255 : Int32)))] ++ List.replicate 92 0) rfl (by decide) (ok_lt (okL.sI (okA (okL.sI (okA (okL.sI (okA s1_ok (c := 38) (n := 96) (by decide) rfl (by decide) rfl) _ _ _) (c := 38) (n := 96) (by decide) rfl (by decide) rfl) _ _ _) (c := 38) (n := 96) (by decide) rfl (by decide) rfl) _ _ _) (c := 38) (n := 96) (by decide) rfl (by decide) (by decide)) rfl (wa_38 _ _) ?_
      refine rb_aload rfl ?_
      refine rb_dupR ?_
      refine rb_getf (v := .int 3) rfl ?_
      refine rb_push ?_
      refine rb_binL (z := 4) (by decide) ?_
      refine rb_putI (pf_37_1 _ _) ?_
      refine rb_iinc (lv' := [some (.ref 37), some (.int (a)), some (.int (-8))]) rfl rfl ?_
      refine rb_goto ?_
      refine rn_step rfl ?_
      refine rb_iload rfl ?_
      refine rb_ilt (fun _ => ?_) (fun h => absurd (by decide) h)
      refine rn_step rfl ?_
      refine rb_retv rfl
    refine rb_aload rfl ?_
    refine rb_getf (v := .ref 37) rfl ?_
    refine rb_iload rfl ?_
    apply rb_callV1v
    case hb => exact rfl
    case hcl => exact rfl
    case hc =>
      apply ex_X5_add
      refine rn_step rfl ?_
      refine rb_push ?_
      refine rb_istore (lv' := [some (.ref 37), some (.int (b)), some (.int 24)]) rfl ?_
      refine rb_goto ?_
      refine rn_step rfl ?_
      refine rb_iload rfl ?_
      refine rb_ilt (fun h => absurd h (by decide)) (fun _ => ?_)
      refine rb_aload rfl ?_
      refine rb_getf (v := .int 4) rfl ?_
      refine rb_push ?_
      refine rb_cge (fun h => absurd h (by decide)) (fun _ => ?_)
      refine rb_aload rfl ?_
      refine rb_getf (v := .ref 38) rfl ?_
      refine rb_aload rfl ?_
      refine rb_getf (v := .int 4) rfl ?_
      refine rb_iload rfl ?_
      refine rb_iload rfl ?_
      refine rb_ushr ?_
      refine rb_push ?_
      refine rb_and ?_
      refine rb_iastL (xs' := [(((((a).toUInt32 >>> (((24 : Int32)).toUInt32 &&& Int32.toUInt32 31)).toInt32)) &&& ((255 : Int32))), (((((a).toUInt32 >>> (((16 : Int32)).toUInt32 &&& Int32.toUInt32 31)).toInt32)) &&& ((255 : Int32))), (((((a).toUInt32 >>> (((8 : Int32)).toUInt32 &&& Int32.toUInt32 31)).toInt32)) &&& ((255 : Int32))), (((((a).toUInt32 >>> (((0 : Int32)).toUInt32 &&& Int32.toUInt32 31)).toInt32)) &&& ((255 : Int32))), (((((b).toUInt32 >>> (((24 : Int32)).toUInt32 &&& Int32.toUInt32 31)).toInt32)) &&& ((255 : Int32)))] ++ List.replicate 91 0) rfl (by decide) (ok_lt (okL.sI (okA (okL.sI (okA (okL.sI (okA (okL.sI (okA s1_ok (c := 38) (n := 96) (by decide) rfl (by decide) rfl) _ _ _) (c := 38) (n := 96) (by decide) rfl (by decide) rfl) _ _ _) (c := 38) (n := 96) (by decide) rfl (by decide) rfl) _ _ _) (c := 38) (n := 96) (by decide) rfl (by decide) rfl) _ _ _) (c := 38) (n := 96) (by decide) rfl (by decide) (by decide)) rfl (wa_38 _ _) ?_
      refine rb_aload rfl ?_
      refine rb_dupR ?_
      refine rb_getf (v := .int 4) rfl ?_
      refine rb_push ?_
      refine rb_binL (z := 5) (by decide) ?_
      refine rb_putI (pf_37_1 _ _) ?_
      refine rb_iinc (lv' := [some (.ref 37), some (.int (b)), some (.int 16)]) rfl rfl ?_
      refine rb_goto ?_
      refine rn_step rfl ?_
      refine rb_iload rfl ?_
      refine rb_ilt (fun h => absurd h (by decide)) (fun _ => ?_)
      refine rb_aload rfl ?_
      refine rb_getf (v := .int 5) rfl ?_
      refine rb_push ?_
      refine rb_cge (fun h => absurd h (by decide)) (fun _ => ?_)
      refine rb_aload rfl ?_
      refine rb_getf (v := .ref 38) rfl ?_
      refine rb_aload rfl ?_
      refine rb_getf (v := .int 5) rfl ?_
      refine rb_iload rfl ?_
      refine rb_iload rfl ?_
      refine rb_ushr ?_
      refine rb_push ?_
      refine rb_and ?_
      refine rb_iastL (xs' := [(((((a).toUInt32 >>> (((24 : Int32)).toUInt32 &&& Int32.toUInt32 31)).toInt32)) &&& ((255 : Int32))), (((((a).toUInt32 >>> (((16 : Int32)).toUInt32 &&& Int32.toUInt32 31)).toInt32)) &&& ((255 : Int32))), (((((a).toUInt32 >>> (((8 : Int32)).toUInt32 &&& Int32.toUInt32 31)).toInt32)) &&& ((255 : Int32))), (((((a).toUInt32 >>> (((0 : Int32)).toUInt32 &&& Int32.toUInt32 31)).toInt32)) &&& ((255 : Int32))), (((((b).toUInt32 >>> (((24 : Int32)).toUInt32 &&& Int32.toUInt32 31)).toInt32)) &&& ((255 : Int32))), (((((b).toUInt32 >>> (((16 : Int32)).toUInt32 &&& Int32.toUInt32 31)).toInt32)) &&& ((255 : Int32)))] ++ List.replicate 90 0) rfl (by decide) (ok_lt (okL.sI (okA (okL.sI (okA (okL.sI (okA (okL.sI (okA (okL.sI (okA s1_ok (c := 38) (n := 96) (by decide) rfl (by decide) rfl) _ _ _) (c := 38) (n := 96) (by decide) rfl (by decide) rfl) _ _ _) (c := 38) (n := 96) (by decide) rfl (by decide) rfl) _ _ _) (c := 38) (n := 96) (by decide) rfl (by decide) rfl) _ _ _) (c := 38) (n := 96) (by decide) rfl (by decide) rfl) _ _ _) (c := 38) (n := 96) (by decide) rfl (by decide) (by decide)) rfl (wa_38 _ _) ?_
      refine rb_aload rfl ?_
      refine rb_dupR ?_
      refine rb_getf (v := .int 5) rfl ?_
      refine rb_push ?_
      refine rb_binL (z := 6) (by decide) ?_
      refine rb_putI (pf_37_1 _ _) ?_
      refine rb_iinc (lv' := [some (.ref 37), some (.int (b)), some (.int 8)]) rfl rfl ?_
      refine rb_goto ?_
      refine rn_step rfl ?_
      refine rb_iload rfl ?_
      refine rb_ilt (fun h => absurd h (by decide)) (fun _ => ?_)
      refine rb_aload rfl ?_
      refine rb_getf (v := .int 6) rfl ?_
      refine rb_push ?_
      refine rb_cge (fun h => absurd h (by decide)) (fun _ => ?_)
      refine rb_aload rfl ?_
      refine rb_getf (v := .ref 38) rfl ?_
      refine rb_aload rfl ?_
      refine rb_getf (v := .int 6) rfl ?_
      refine rb_iload rfl ?_
      refine rb_iload rfl ?_
      refine rb_ushr ?_
      refine rb_push ?_
      refine rb_and ?_
      refine rb_iastL (xs' := [(((((a).toUInt32 >>> (((24 : Int32)).toUInt32 &&& Int32.toUInt32 31)).toInt32)) &&& ((255 : Int32))), (((((a).toUInt32 >>> (((16 : Int32)).toUInt32 &&& Int32.toUInt32 31)).toInt32)) &&& ((255 : Int32))), (((((a).toUInt32 >>> (((8 : Int32)).toUInt32 &&& Int32.toUInt32 31)).toInt32)) &&& ((255 : Int32))), (((((a).toUInt32 >>> (((0 : Int32)).toUInt32 &&& Int32.toUInt32 31)).toInt32)) &&& ((255 : Int32))), (((((b).toUInt32 >>> (((24 : Int32)).toUInt32 &&& Int32.toUInt32 31)).toInt32)) &&& ((255 : Int32))), (((((b).toUInt32 >>> (((16 : Int32)).toUInt32 &&& Int32.toUInt32 31)).toInt32)) &&& ((255 : Int32))), (((((b).toUInt32 >>> (((8 : Int32)).toUInt32 &&& Int32.toUInt32 31)).toInt32)) &&& ((255 : Int32)))] ++ List.replicate 89 0) rfl (by decide) (ok_lt (okL.sI (okA (okL.sI (okA (okL.sI (okA (okL.sI (okA (okL.sI (okA (okL.sI (okA s1_ok (c := 38) (n := 96) (by decide) rfl (by decide) rfl) _ _ _) (c := 38) (n := 96) (by decide) rfl (by decide) rfl) _ _ _) (c := 38) (n := 96) (by decide) rfl (by decide) rfl) _ _ _) (c := 38) (n := 96) (by decide) rfl (by decide) rfl) _ _ _) (c := 38) (n := 96) (by decide) rfl (by decide) rfl) _ _ _) (c := 38) (n := 96) (by decide) rfl (by decide) rfl) _ _ _) (c := 38) (n := 96) (by decide) rfl (by decide) (by decide)) rfl (wa_38 _ _) ?_
      refine rb_aload rfl ?_
      refine rb_dupR ?_
      refine rb_getf (v := .int 6) rfl ?_
      refine rb_push ?_
      refine rb_binL (z := 7) (by decide) ?_
      refine rb_putI (pf_37_1 _ _) ?_
      refine rb_iinc (lv' := [some (.ref 37), some (.int (b)), some (.int 0)]) rfl rfl ?_
      refine rb_goto ?_
      refine rn_step rfl ?_
      refine rb_iload rfl ?_
      refine rb_ilt (fun h => absurd h (by decide)) (fun _ => ?_)
      refine rb_aload rfl ?_
      refine rb_getf (v := .int 7) rfl ?_
      refine rb_push ?_
      refine rb_cge (fun h => absurd h (by decide)) (fun _ => ?_)
      refine rb_aload rfl ?_
      refine rb_getf (v := .ref 38) rfl ?_
      refine rb_aload rfl ?_
      refine rb_getf (v := .int 7) rfl ?_
      refine rb_iload rfl ?_
      refine rb_iload rfl ?_
      refine rb_ushr ?_
      refine rb_push ?_
      refine rb_and ?_
      refine rb_iastL (xs' := [(((((a).toUInt32 >>> (((24 : Int32)).toUInt32 &&& Int32.toUInt32 31)).toInt32)) &&& ((255 : Int32))), (((((a).toUInt32 >>> (((16 : Int32)).toUInt32 &&& Int32.toUInt32 31)).toInt32)) &&& ((255 : Int32))), (((((a).toUInt32 >>> (((8 : Int32)).toUInt32 &&& Int32.toUInt32 31)).toInt32)) &&& ((255 : Int32))), (((((a).toUInt32 >>> (((0 : Int32)).toUInt32 &&& Int32.toUInt32 31)).toInt32)) &&& ((255 : Int32))), (((((b).toUInt32 >>> (((24 : Int32)).toUInt32 &&& Int32.toUInt32 31)).toInt32)) &&& ((255 : Int32))), (((((b).toUInt32 >>> (((16 : Int32)).toUInt32 &&& Int32.toUInt32 31)).toInt32)) &&& ((255 : Int32))), (((((b).toUInt32 >>> (((8 : Int32)).toUInt32 &&& Int32.toUInt32 31)).toInt32)) &&& ((255 : Int32))), (((((b).toUInt32 >>> (((0 : Int32)).toUInt32 &&& Int32.toUInt32 31)).toInt32)) &&& ((255 : Int32)))] ++ List.replicate 88 0) rfl (by decide) (ok_lt (okL.sI (okA (okL.sI (okA (okL.sI (okA (okL.sI (okA (okL.sI (okA (okL.sI (okA (okL.sI (okA s1_ok (c := 38) (n := 96) (by decide) rfl (by decide) rfl) _ _ _) (c := 38) (n := 96) (by decide) rfl (by decide) rfl) _ _ _) (c := 38) (n := 96) (by decide) rfl (by decide) rfl) _ _ _) (c := 38) (n := 96) (by decide) rfl (by decide) rfl) _ _ _) (c := 38) (n := 96) (by decide) rfl (by decide) rfl) _ _ _) (c := 38) (n := 96) (by decide) rfl (by decide) rfl) _ _ _) (c := 38) (n := 96) (by decide) rfl (by decide) rfl) _ _ _) (c := 38) (n := 96) (by decide) rfl (by decide) (by decide)) rfl (wa_38 _ _) ?_
      refine rb_aload rfl ?_
      refine rb_dupR ?_
      refine rb_getf (v := .int 7) rfl ?_
      refine rb_push ?_
      refine rb_binL (z := 8) (by decide) ?_
      refine rb_putI (pf_37_1 _ _) ?_
      refine rb_iinc (lv' := [some (.ref 37), some (.int (b)), some (.int (-8))]) rfl rfl ?_
      refine rb_goto ?_
      refine rn_step rfl ?_
      refine rb_iload rfl ?_
      refine rb_ilt (fun _ => ?_) (fun h => absurd (by decide) h)
      refine rn_step rfl ?_
      refine rb_retv rfl
    refine rb_aload rfl ?_
    refine rb_getf (v := .ref 37) rfl ?_
    refine rb_iload rfl ?_
    apply rb_callV1v
    case hb => exact rfl
    case hcl => exact rfl
    case hc =>
      apply ex_X5_add
      refine rn_step rfl ?_
      refine rb_push ?_
      refine rb_istore (lv' := [some (.ref 37), some (.int (c)), some (.int 24)]) rfl ?_
      refine rb_goto ?_
      refine rn_step rfl ?_
      refine rb_iload rfl ?_
      refine rb_ilt (fun h => absurd h (by decide)) (fun _ => ?_)
      refine rb_aload rfl ?_
      refine rb_getf (v := .int 8) rfl ?_
      refine rb_push ?_
      refine rb_cge (fun h => absurd h (by decide)) (fun _ => ?_)
      refine rb_aload rfl ?_
      refine rb_getf (v := .ref 38) rfl ?_
      refine rb_aload rfl ?_
      refine rb_getf (v := .int 8) rfl ?_
      refine rb_iload rfl ?_
      refine rb_iload rfl ?_
      refine rb_ushr ?_
      refine rb_push ?_
      refine rb_and ?_
      refine rb_iastL (xs' := [(((((a).toUInt32 >>> (((24 : Int32)).toUInt32 &&& Int32.toUInt32 31)).toInt32)) &&& ((255 : Int32))), (((((a).toUInt32 >>> (((16 : Int32)).toUInt32 &&& Int32.toUInt32 31)).toInt32)) &&& ((255 : Int32))), (((((a).toUInt32 >>> (((8 : Int32)).toUInt32 &&& Int32.toUInt32 31)).toInt32)) &&& ((255 : Int32))), (((((a).toUInt32 >>> (((0 : Int32)).toUInt32 &&& Int32.toUInt32 31)).toInt32)) &&& ((255 : Int32))), (((((b).toUInt32 >>> (((24 : Int32)).toUInt32 &&& Int32.toUInt32 31)).toInt32)) &&& ((255 : Int32))), (((((b).toUInt32 >>> (((16 : Int32)).toUInt32 &&& Int32.toUInt32 31)).toInt32)) &&& ((255 : Int32))), (((((b).toUInt32 >>> (((8 : Int32)).toUInt32 &&& Int32.toUInt32 31)).toInt32)) &&& ((255 : Int32))), (((((b).toUInt32 >>> (((0 : Int32)).toUInt32 &&& Int32.toUInt32 31)).toInt32)) &&& ((255 : Int32))), (((((c).toUInt32 >>> (((24 : Int32)).toUInt32 &&& Int32.toUInt32 31)).toInt32)) &&& ((255 : Int32)))] ++ List.replicate 87 0) rfl (by decide) (ok_lt (okL.sI (okA (okL.sI (okA (okL.sI (okA (okL.sI (okA (okL.sI (okA (okL.sI (okA (okL.sI (okA (okL.sI (okA s1_ok (c := 38) (n := 96) (by decide) rfl (by decide) rfl) _ _ _) (c := 38) (n := 96) (by decide) rfl (by decide) rfl) _ _ _) (c := 38) (n := 96) (by decide) rfl (by decide) rfl) _ _ _) (c := 38) (n := 96) (by decide) rfl (by decide) rfl) _ _ _) (c := 38) (n := 96) (by decide) rfl (by decide) rfl) _ _ _) (c := 38) (n := 96) (by decide) rfl (by decide) rfl) _ _ _) (c := 38) (n := 96) (by decide) rfl (by decide) rfl) _ _ _) (c := 38) (n := 96) (by decide) rfl (by decide) rfl) _ _ _) (c := 38) (n := 96) (by decide) rfl (by decide) (by decide)) rfl (wa_38 _ _) ?_
      refine rb_aload rfl ?_
      refine rb_dupR ?_
      refine rb_getf (v := .int 8) rfl ?_
      refine rb_push ?_
      refine rb_binL (z := 9) (by decide) ?_
      refine rb_putI (pf_37_1 _ _) ?_
      refine rb_iinc (lv' := [some (.ref 37), some (.int (c)), some (.int 16)]) rfl rfl ?_
      refine rb_goto ?_
      refine rn_step rfl ?_
      refine rb_iload rfl ?_
      refine rb_ilt (fun h => absurd h (by decide)) (fun _ => ?_)
      refine rb_aload rfl ?_
      refine rb_getf (v := .int 9) rfl ?_
      refine rb_push ?_
      refine rb_cge (fun h => absurd h (by decide)) (fun _ => ?_)
      refine rb_aload rfl ?_
      refine rb_getf (v := .ref 38) rfl ?_
      refine rb_aload rfl ?_
      refine rb_getf (v := .int 9) rfl ?_
      refine rb_iload rfl ?_
      refine rb_iload rfl ?_
      refine rb_ushr ?_
      refine rb_push ?_
      refine rb_and ?_
      refine rb_iastL (xs' := [(((((a).toUInt32 >>> (((24 : Int32)).toUInt32 &&& Int32.toUInt32 31)).toInt32)) &&& ((255 : Int32))), (((((a).toUInt32 >>> (((16 : Int32)).toUInt32 &&& Int32.toUInt32 31)).toInt32)) &&& ((255 : Int32))), (((((a).toUInt32 >>> (((8 : Int32)).toUInt32 &&& Int32.toUInt32 31)).toInt32)) &&& ((255 : Int32))), (((((a).toUInt32 >>> (((0 : Int32)).toUInt32 &&& Int32.toUInt32 31)).toInt32)) &&& ((255 : Int32))), (((((b).toUInt32 >>> (((24 : Int32)).toUInt32 &&& Int32.toUInt32 31)).toInt32)) &&& ((255 : Int32))), (((((b).toUInt32 >>> (((16 : Int32)).toUInt32 &&& Int32.toUInt32 31)).toInt32)) &&& ((255 : Int32))), (((((b).toUInt32 >>> (((8 : Int32)).toUInt32 &&& Int32.toUInt32 31)).toInt32)) &&& ((255 : Int32))), (((((b).toUInt32 >>> (((0 : Int32)).toUInt32 &&& Int32.toUInt32 31)).toInt32)) &&& ((255 : Int32))), (((((c).toUInt32 >>> (((24 : Int32)).toUInt32 &&& Int32.toUInt32 31)).toInt32)) &&& ((255 : Int32))), (((((c).toUInt32 >>> (((16 : Int32)).toUInt32 &&& Int32.toUInt32 31)).toInt32)) &&& ((255 : Int32)))] ++ List.replicate 86 0) rfl (by decide) (ok_lt (okL.sI (okA (okL.sI (okA (okL.sI (okA (okL.sI (okA (okL.sI (okA (okL.sI (okA (okL.sI (okA (okL.sI (okA (okL.sI (okA s1_ok (c := 38) (n := 96) (by decide) rfl (by decide) rfl) _ _ _) (c := 38) (n := 96) (by decide) rfl (by decide) rfl) _ _ _) (c := 38) (n := 96) (by decide) rfl (by decide) rfl) _ _ _) (c := 38) (n := 96) (by decide) rfl (by decide) rfl) _ _ _) (c := 38) (n := 96) (by decide) rfl (by decide) rfl) _ _ _) (c := 38) (n := 96) (by decide) rfl (by decide) rfl) _ _ _) (c := 38) (n := 96) (by decide) rfl (by decide) rfl) _ _ _) (c := 38) (n := 96) (by decide) rfl (by decide) rfl) _ _ _) (c := 38) (n := 96) (by decide) rfl (by decide) rfl) _ _ _) (c := 38) (n := 96) (by decide) rfl (by decide) (by decide)) rfl (wa_38 _ _) ?_
      refine rb_aload rfl ?_
      refine rb_dupR ?_
      refine rb_getf (v := .int 9) rfl ?_
      refine rb_push ?_
      refine rb_binL (z := 10) (by decide) ?_
      refine rb_putI (pf_37_1 _ _) ?_
      refine rb_iinc (lv' := [some (.ref 37), some (.int (c)), some (.int 8)]) rfl rfl ?_
      refine rb_goto ?_
      refine rn_step rfl ?_
      refine rb_iload rfl ?_
      refine rb_ilt (fun h => absurd h (by decide)) (fun _ => ?_)
      refine rb_aload rfl ?_
      refine rb_getf (v := .int 10) rfl ?_
      refine rb_push ?_
      refine rb_cge (fun h => absurd h (by decide)) (fun _ => ?_)
      refine rb_aload rfl ?_
      refine rb_getf (v := .ref 38) rfl ?_
      refine rb_aload rfl ?_
      refine rb_getf (v := .int 10) rfl ?_
      refine rb_iload rfl ?_
      refine rb_iload rfl ?_
      refine rb_ushr ?_
      refine rb_push ?_
      refine rb_and ?_
      refine rb_iastL (xs' := [(((((a).toUInt32 >>> (((24 : Int32)).toUInt32 &&& Int32.toUInt32 31)).toInt32)) &&& ((255 : Int32))), (((((a).toUInt32 >>> (((16 : Int32)).toUInt32 &&& Int32.toUInt32 31)).toInt32)) &&& ((255 : Int32))), (((((a).toUInt32 >>> (((8 : Int32)).toUInt32 &&& Int32.toUInt32 31)).toInt32)) &&& ((255 : Int32))), (((((a).toUInt32 >>> (((0 : Int32)).toUInt32 &&& Int32.toUInt32 31)).toInt32)) &&& ((255 : Int32))), (((((b).toUInt32 >>> (((24 : Int32)).toUInt32 &&& Int32.toUInt32 31)).toInt32)) &&& ((255 : Int32))), (((((b).toUInt32 >>> (((16 : Int32)).toUInt32 &&& Int32.toUInt32 31)).toInt32)) &&& ((255 : Int32))), (((((b).toUInt32 >>> (((8 : Int32)).toUInt32 &&& Int32.toUInt32 31)).toInt32)) &&& ((255 : Int32))), (((((b).toUInt32 >>> (((0 : Int32)).toUInt32 &&& Int32.toUInt32 31)).toInt32)) &&& ((255 : Int32))), (((((c).toUInt32 >>> (((24 : Int32)).toUInt32 &&& Int32.toUInt32 31)).toInt32)) &&& ((255 : Int32))), (((((c).toUInt32 >>> (((16 : Int32)).toUInt32 &&& Int32.toUInt32 31)).toInt32)) &&& ((255 : Int32))), (((((c).toUInt32 >>> (((8 : Int32)).toUInt32 &&& Int32.toUInt32 31)).toInt32)) &&& ((255 : Int32)))] ++ List.replicate 85 0) rfl (by decide) (ok_lt (okL.sI (okA (okL.sI (okA (okL.sI (okA (okL.sI (okA (okL.sI (okA (okL.sI (okA (okL.sI (okA (okL.sI (okA (okL.sI (okA (okL.sI (okA s1_ok (c := 38) (n := 96) (by decide) rfl (by decide) rfl) _ _ _) (c := 38) (n := 96) (by decide) rfl (by decide) rfl) _ _ _) (c := 38) (n := 96) (by decide) rfl (by decide) rfl) _ _ _) (c := 38) (n := 96) (by decide) rfl (by decide) rfl) _ _ _) (c := 38) (n := 96) (by decide) rfl (by decide) rfl) _ _ _) (c := 38) (n := 96) (by decide) rfl (by decide) rfl) _ _ _) (c := 38) (n := 96) (by decide) rfl (by decide) rfl) _ _ _) (c := 38) (n := 96) (by decide) rfl (by decide) rfl) _ _ _) (c := 38) (n := 96) (by decide) rfl (by decide) rfl) _ _ _) (c := 38) (n := 96) (by decide) rfl (by decide) rfl) _ _ _) (c := 38) (n := 96) (by decide) rfl (by decide) (by decide)) rfl (wa_38 _ _) ?_
      refine rb_aload rfl ?_
      refine rb_dupR ?_
      refine rb_getf (v := .int 10) rfl ?_
      refine rb_push ?_
      refine rb_binL (z := 11) (by decide) ?_
      refine rb_putI (pf_37_1 _ _) ?_
      refine rb_iinc (lv' := [some (.ref 37), some (.int (c)), some (.int 0)]) rfl rfl ?_
      refine rb_goto ?_
      refine rn_step rfl ?_
      refine rb_iload rfl ?_
      refine rb_ilt (fun h => absurd h (by decide)) (fun _ => ?_)
      refine rb_aload rfl ?_
      refine rb_getf (v := .int 11) rfl ?_
      refine rb_push ?_
      refine rb_cge (fun h => absurd h (by decide)) (fun _ => ?_)
      refine rb_aload rfl ?_
      refine rb_getf (v := .ref 38) rfl ?_
      refine rb_aload rfl ?_
      refine rb_getf (v := .int 11) rfl ?_
      refine rb_iload rfl ?_
      refine rb_iload rfl ?_
      refine rb_ushr ?_
      refine rb_push ?_
      refine rb_and ?_
      refine rb_iastL (xs' := [(((((a).toUInt32 >>> (((24 : Int32)).toUInt32 &&& Int32.toUInt32 31)).toInt32)) &&& ((255 : Int32))), (((((a).toUInt32 >>> (((16 : Int32)).toUInt32 &&& Int32.toUInt32 31)).toInt32)) &&& ((255 : Int32))), (((((a).toUInt32 >>> (((8 : Int32)).toUInt32 &&& Int32.toUInt32 31)).toInt32)) &&& ((255 : Int32))), (((((a).toUInt32 >>> (((0 : Int32)).toUInt32 &&& Int32.toUInt32 31)).toInt32)) &&& ((255 : Int32))), (((((b).toUInt32 >>> (((24 : Int32)).toUInt32 &&& Int32.toUInt32 31)).toInt32)) &&& ((255 : Int32))), (((((b).toUInt32 >>> (((16 : Int32)).toUInt32 &&& Int32.toUInt32 31)).toInt32)) &&& ((255 : Int32))), (((((b).toUInt32 >>> (((8 : Int32)).toUInt32 &&& Int32.toUInt32 31)).toInt32)) &&& ((255 : Int32))), (((((b).toUInt32 >>> (((0 : Int32)).toUInt32 &&& Int32.toUInt32 31)).toInt32)) &&& ((255 : Int32))), (((((c).toUInt32 >>> (((24 : Int32)).toUInt32 &&& Int32.toUInt32 31)).toInt32)) &&& ((255 : Int32))), (((((c).toUInt32 >>> (((16 : Int32)).toUInt32 &&& Int32.toUInt32 31)).toInt32)) &&& ((255 : Int32))), (((((c).toUInt32 >>> (((8 : Int32)).toUInt32 &&& Int32.toUInt32 31)).toInt32)) &&& ((255 : Int32))), (((((c).toUInt32 >>> (((0 : Int32)).toUInt32 &&& Int32.toUInt32 31)).toInt32)) &&& ((255 : Int32)))] ++ List.replicate 84 0) rfl (by decide) (ok_lt (okL.sI (okA (okL.sI (okA (okL.sI (okA (okL.sI (okA (okL.sI (okA (okL.sI (okA (okL.sI (okA (okL.sI (okA (okL.sI (okA (okL.sI (okA (okL.sI (okA s1_ok (c := 38) (n := 96) (by decide) rfl (by decide) rfl) _ _ _) (c := 38) (n := 96) (by decide) rfl (by decide) rfl) _ _ _) (c := 38) (n := 96) (by decide) rfl (by decide) rfl) _ _ _) (c := 38) (n := 96) (by decide) rfl (by decide) rfl) _ _ _) (c := 38) (n := 96) (by decide) rfl (by decide) rfl) _ _ _) (c := 38) (n := 96) (by decide) rfl (by decide) rfl) _ _ _) (c := 38) (n := 96) (by decide) rfl (by decide) rfl) _ _ _) (c := 38) (n := 96) (by decide) rfl (by decide) rfl) _ _ _) (c := 38) (n := 96) (by decide) rfl (by decide) rfl) _ _ _) (c := 38) (n := 96) (by decide) rfl (by decide) rfl) _ _ _) (c := 38) (n := 96) (by decide) rfl (by decide) rfl) _ _ _) (c := 38) (n := 96) (by decide) rfl (by decide) (by decide)) rfl (wa_38 _ _) ?_
      refine rb_aload rfl ?_
      refine rb_dupR ?_
      refine rb_getf (v := .int 11) rfl ?_
      refine rb_push ?_
      refine rb_binL (z := 12) (by decide) ?_
      refine rb_putI (pf_37_1 _ _) ?_
      refine rb_iinc (lv' := [some (.ref 37), some (.int (c)), some (.int (-8))]) rfl rfl ?_
      refine rb_goto ?_
      refine rn_step rfl ?_
      refine rb_iload rfl ?_
      refine rb_ilt (fun _ => ?_) (fun h => absurd (by decide) h)
      refine rn_step rfl ?_
      refine rb_retv rfl
    refine rb_aload rfl ?_
    refine rb_getf (v := .ref 37) rfl ?_
    refine rb_getf (v := .int 12) rfl ?_
    refine rb_ret rfl rfl
  case h2 =>
    apply ex_X9_feed
    refine rn_step rfl ?_
    refine rb_aload rfl ?_
    refine rb_getf (v := .int 0) rfl ?_
    refine rb_push ?_
    refine rb_binL (z := 12) (by decide) ?_
    refine rb_push ?_
    refine rb_cle (fun _ => ?_) (fun h => absurd (by decide) h)
    refine rn_step rfl ?_
    refine rb_push ?_
    refine rb_istore (lv' := [some (.ref 68), some (.int (a)), some (.int (b)), some (.int (c)), some (.int 0), none]) rfl ?_
    refine rb_goto ?_
    refine rn_step rfl ?_
    refine rb_iload rfl ?_
    refine rb_push ?_
    refine rb_cge (fun h => absurd h (by decide)) (fun _ => ?_)
    refine rb_iload rfl ?_
    refine rb_push ?_
    refine rb_cge (fun h => absurd h (by decide)) (fun _ => ?_)
    refine rb_iload rfl ?_
    refine rb_goto ?_
    refine rn_step rfl ?_
    refine rb_istore (lv' := [some (.ref 68), some (.int (a)), some (.int (b)), some (.int (c)), some (.int 0), some (.int (a))]) rfl ?_
    refine rb_aload rfl ?_
    refine rb_getf (v := .ref 75) rfl ?_
    refine rb_aload rfl ?_
    refine rb_getf (v := .int 0) rfl ?_
    refine rb_iload rfl ?_
    refine rb_binL (z := 0) (by decide) ?_
    refine rb_iload rfl ?_
    refine rb_push ?_
    refine rb_push ?_
    refine rb_iload rfl ?_
    refine rb_push ?_
    refine rb_divL (z := 0) (by decide) (by decide) ?_
    refine rb_binL (z := 0) (by decide) ?_
    refine rb_binL (z := 24) (by decide) ?_
    refine rb_shr ?_
    refine rb_push ?_
    refine rb_and ?_
    refine rb_iastL (xs' := [((((a) >>> (((24 : Int32)) &&& 31))) &&& ((255 : Int32)))] ++ List.replicate 95 0) rfl (by decide) (ok_lt (okL.sI (okA (okL.sI (okA (okL.sI (okA (okL.sI (okA (okL.sI (okA (okL.sI (okA (okL.sI (okA (okL.sI (okA (okL.sI (okA (okL.sI (okA (okL.sI (okA (okL.sI (okA s1_ok (c := 38) (n := 96) (by decide) rfl (by decide) rfl) _ _ _) (c := 38) (n := 96) (by decide) rfl (by decide) rfl) _ _ _) (c := 38) (n := 96) (by decide) rfl (by decide) rfl) _ _ _) (c := 38) (n := 96) (by decide) rfl (by decide) rfl) _ _ _) (c := 38) (n := 96) (by decide) rfl (by decide) rfl) _ _ _) (c := 38) (n := 96) (by decide) rfl (by decide) rfl) _ _ _) (c := 38) (n := 96) (by decide) rfl (by decide) rfl) _ _ _) (c := 38) (n := 96) (by decide) rfl (by decide) rfl) _ _ _) (c := 38) (n := 96) (by decide) rfl (by decide) rfl) _ _ _) (c := 38) (n := 96) (by decide) rfl (by decide) rfl) _ _ _) (c := 38) (n := 96) (by decide) rfl (by decide) rfl) _ _ _) (c := 38) (n := 96) (by decide) rfl (by decide) rfl) _ _ _) (c := 75) (n := 96) (by decide) rfl (by decide) (by decide)) rfl (wa_75 _ _) ?_
    refine rb_iinc (lv' := [some (.ref 68), some (.int (a)), some (.int (b)), some (.int (c)), some (.int 1), some (.int (a))]) rfl rfl ?_
    refine rb_goto ?_
    refine rn_step rfl ?_
    refine rb_iload rfl ?_
    refine rb_push ?_
    refine rb_cge (fun h => absurd h (by decide)) (fun _ => ?_)
    refine rb_iload rfl ?_
    refine rb_push ?_
    refine rb_cge (fun h => absurd h (by decide)) (fun _ => ?_)
    refine rb_iload rfl ?_
    refine rb_goto ?_
    refine rn_step rfl ?_
    refine rb_istore (lv' := [some (.ref 68), some (.int (a)), some (.int (b)), some (.int (c)), some (.int 1), some (.int (a))]) rfl ?_
    refine rb_aload rfl ?_
    refine rb_getf (v := .ref 75) rfl ?_
    refine rb_aload rfl ?_
    refine rb_getf (v := .int 0) rfl ?_
    refine rb_iload rfl ?_
    refine rb_binL (z := 1) (by decide) ?_
    refine rb_iload rfl ?_
    refine rb_push ?_
    refine rb_push ?_
    refine rb_iload rfl ?_
    refine rb_push ?_
    refine rb_divL (z := 1) (by decide) (by decide) ?_
    refine rb_binL (z := 8) (by decide) ?_
    refine rb_binL (z := 16) (by decide) ?_
    refine rb_shr ?_
    refine rb_push ?_
    refine rb_and ?_
    refine rb_iastL (xs' := [((((a) >>> (((24 : Int32)) &&& 31))) &&& ((255 : Int32))), ((((a) >>> (((16 : Int32)) &&& 31))) &&& ((255 : Int32)))] ++ List.replicate 94 0) rfl (by decide) (ok_lt (okA (okL.sI (okA (okL.sI (okA (okL.sI (okA (okL.sI (okA (okL.sI (okA (okL.sI (okA (okL.sI (okA (okL.sI (okA (okL.sI (okA (okL.sI (okA (okL.sI (okA (okL.sI (okA s1_ok (c := 38) (n := 96) (by decide) rfl (by decide) rfl) _ _ _) (c := 38) (n := 96) (by decide) rfl (by decide) rfl) _ _ _) (c := 38) (n := 96) (by decide) rfl (by decide) rfl) _ _ _) (c := 38) (n := 96) (by decide) rfl (by decide) rfl) _ _ _) (c := 38) (n := 96) (by decide) rfl (by decide) rfl) _ _ _) (c := 38) (n := 96) (by decide) rfl (by decide) rfl) _ _ _) (c := 38) (n := 96) (by decide) rfl (by decide) rfl) _ _ _) (c := 38) (n := 96) (by decide) rfl (by decide) rfl) _ _ _) (c := 38) (n := 96) (by decide) rfl (by decide) rfl) _ _ _) (c := 38) (n := 96) (by decide) rfl (by decide) rfl) _ _ _) (c := 38) (n := 96) (by decide) rfl (by decide) rfl) _ _ _) (c := 38) (n := 96) (by decide) rfl (by decide) rfl) _ _ _) (c := 75) (n := 96) (by decide) rfl (by decide) rfl) (c := 75) (n := 96) (by decide) rfl (by decide) (by decide)) rfl (wa_75 _ _) ?_
    refine rb_iinc (lv' := [some (.ref 68), some (.int (a)), some (.int (b)), some (.int (c)), some (.int 2), some (.int (a))]) rfl rfl ?_
    refine rb_goto ?_
    refine rn_step rfl ?_
    refine rb_iload rfl ?_
    refine rb_push ?_
    refine rb_cge (fun h => absurd h (by decide)) (fun _ => ?_)
    refine rb_iload rfl ?_
    refine rb_push ?_
    refine rb_cge (fun h => absurd h (by decide)) (fun _ => ?_)
    refine rb_iload rfl ?_
    refine rb_goto ?_
    refine rn_step rfl ?_
    refine rb_istore (lv' := [some (.ref 68), some (.int (a)), some (.int (b)), some (.int (c)), some (.int 2), some (.int (a))]) rfl ?_
    refine rb_aload rfl ?_
    refine rb_getf (v := .ref 75) rfl ?_
    refine rb_aload rfl ?_
    refine rb_getf (v := .int 0) rfl ?_
    refine rb_iload rfl ?_
    refine rb_binL (z := 2) (by decide) ?_
    refine rb_iload rfl ?_
    refine rb_push ?_
    refine rb_push ?_
    refine rb_iload rfl ?_
    refine rb_push ?_
    refine rb_divL (z := 2) (by decide) (by decide) ?_
    refine rb_binL (z := 16) (by decide) ?_
    refine rb_binL (z := 8) (by decide) ?_
    refine rb_shr ?_
    refine rb_push ?_
    refine rb_and ?_
    refine rb_iastL (xs' := [((((a) >>> (((24 : Int32)) &&& 31))) &&& ((255 : Int32))), ((((a) >>> (((16 : Int32)) &&& 31))) &&& ((255 : Int32))), ((((a) >>> (((8 : Int32)) &&& 31))) &&& ((255 : Int32)))] ++ List.replicate 93 0) rfl (by decide) (ok_lt (okA (okA (okL.sI (okA (okL.sI (okA (okL.sI (okA (okL.sI (okA (okL.sI (okA (okL.sI (okA (okL.sI (okA (okL.sI (okA (okL.sI (okA (okL.sI (okA (okL.sI (okA (okL.sI (okA s1_ok (c := 38) (n := 96) (by decide) rfl (by decide) rfl) _ _ _) (c := 38) (n := 96) (by decide) rfl (by decide) rfl) _ _ _) (c := 38) (n := 96) (by decide) rfl (by decide) rfl) _ _ _) (c := 38) (n := 96) (by decide) rfl (by decide) rfl) _ _ _) (c := 38) (n := 96) (by decide) rfl (by decide) rfl) _ _ _) (c := 38) (n := 96) (by decide) rfl (by decide) rfl) _ _ _) (c := 38) (n := 96) (by decide) rfl (by decide) rfl) _ _ _) (c := 38) (n := 96) (by decide) rfl (by decide) rfl) _ _ _) (c := 38) (n := 96) (by decide) rfl (by decide) rfl) _ _ _) (c := 38) (n := 96) (by decide) rfl (by decide) rfl) _ _ _) (c := 38) (n := 96) (by decide) rfl (by decide) rfl) _ _ _) (c := 38) (n := 96) (by decide) rfl (by decide) rfl) _ _ _) (c := 75) (n := 96) (by decide) rfl (by decide) rfl) (c := 75) (n := 96) (by decide) rfl (by decide) rfl) (c := 75) (n := 96) (by decide) rfl (by decide) (by decide)) rfl (wa_75 _ _) ?_
    refine rb_iinc (lv' := [some (.ref 68), some (.int (a)), some (.int (b)), some (.int (c)), some (.int 3), some (.int (a))]) rfl rfl ?_
    refine rb_goto ?_
    refine rn_step rfl ?_
    refine rb_iload rfl ?_
    refine rb_push ?_
    refine rb_cge (fun h => absurd h (by decide)) (fun _ => ?_)
    refine rb_iload rfl ?_
    refine rb_push ?_
    refine rb_cge (fun h => absurd h (by decide)) (fun _ => ?_)
    refine rb_iload rfl ?_
    refine rb_goto ?_
    refine rn_step rfl ?_
    refine rb_istore (lv' := [some (.ref 68), some (.int (a)), some (.int (b)), some (.int (c)), some (.int 3), some (.int (a))]) rfl ?_
    refine rb_aload rfl ?_
    refine rb_getf (v := .ref 75) rfl ?_
    refine rb_aload rfl ?_
    refine rb_getf (v := .int 0) rfl ?_
    refine rb_iload rfl ?_
    refine rb_binL (z := 3) (by decide) ?_
    refine rb_iload rfl ?_
    refine rb_push ?_
    refine rb_push ?_
    refine rb_iload rfl ?_
    refine rb_push ?_
    refine rb_divL (z := 3) (by decide) (by decide) ?_
    refine rb_binL (z := 24) (by decide) ?_
    refine rb_binL (z := 0) (by decide) ?_
    refine rb_shr ?_
    refine rb_push ?_
    refine rb_and ?_
    refine rb_iastL (xs' := [((((a) >>> (((24 : Int32)) &&& 31))) &&& ((255 : Int32))), ((((a) >>> (((16 : Int32)) &&& 31))) &&& ((255 : Int32))), ((((a) >>> (((8 : Int32)) &&& 31))) &&& ((255 : Int32))), ((((a) >>> (((0 : Int32)) &&& 31))) &&& ((255 : Int32)))] ++ List.replicate 92 0) rfl (by decide) (ok_lt (okA (okA (okA (okL.sI (okA (okL.sI (okA (okL.sI (okA (okL.sI (okA (okL.sI (okA (okL.sI (okA (okL.sI (okA (okL.sI (okA (okL.sI (okA (okL.sI (okA (okL.sI (okA (okL.sI (okA s1_ok (c := 38) (n := 96) (by decide) rfl (by decide) rfl) _ _ _) (c := 38) (n := 96) (by decide) rfl (by decide) rfl) _ _ _) (c := 38) (n := 96) (by decide) rfl (by decide) rfl) _ _ _) (c := 38) (n := 96) (by decide) rfl (by decide) rfl) _ _ _) (c := 38) (n := 96) (by decide) rfl (by decide) rfl) _ _ _) (c := 38) (n := 96) (by decide) rfl (by decide) rfl) _ _ _) (c := 38) (n := 96) (by decide) rfl (by decide) rfl) _ _ _) (c := 38) (n := 96) (by decide) rfl (by decide) rfl) _ _ _) (c := 38) (n := 96) (by decide) rfl (by decide) rfl) _ _ _) (c := 38) (n := 96) (by decide) rfl (by decide) rfl) _ _ _) (c := 38) (n := 96) (by decide) rfl (by decide) rfl) _ _ _) (c := 38) (n := 96) (by decide) rfl (by decide) rfl) _ _ _) (c := 75) (n := 96) (by decide) rfl (by decide) rfl) (c := 75) (n := 96) (by decide) rfl (by decide) rfl) (c := 75) (n := 96) (by decide) rfl (by decide) rfl) (c := 75) (n := 96) (by decide) rfl (by decide) (by decide)) rfl (wa_75 _ _) ?_
    refine rb_iinc (lv' := [some (.ref 68), some (.int (a)), some (.int (b)), some (.int (c)), some (.int 4), some (.int (a))]) rfl rfl ?_
    refine rb_goto ?_
    refine rn_step rfl ?_
    refine rb_iload rfl ?_
    refine rb_push ?_
    refine rb_cge (fun h => absurd h (by decide)) (fun _ => ?_)
    refine rb_iload rfl ?_
    refine rb_push ?_
    refine rb_cge (fun _ => ?_) (fun h => absurd (by decide) h)
    refine rn_step rfl ?_
    refine rb_iload rfl ?_
    refine rb_push ?_
    refine rb_cge (fun h => absurd h (by decide)) (fun _ => ?_)
    refine rb_iload rfl ?_
    refine rb_goto ?_
    refine rn_step rfl ?_
    refine rb_istore (lv' := [some (.ref 68), some (.int (a)), some (.int (b)), some (.int (c)), some (.int 4), some (.int (b))]) rfl ?_
    refine rb_aload rfl ?_
    refine rb_getf (v := .ref 75) rfl ?_
    refine rb_aload rfl ?_
    refine rb_getf (v := .int 0) rfl ?_
    refine rb_iload rfl ?_
    refine rb_binL (z := 4) (by decide) ?_
    refine rb_iload rfl ?_
    refine rb_push ?_
    refine rb_push ?_
    refine rb_iload rfl ?_
    refine rb_push ?_
    refine rb_divL (z := 0) (by decide) (by decide) ?_
    refine rb_binL (z := 0) (by decide) ?_
    refine rb_binL (z := 24) (by decide) ?_
    refine rb_shr ?_
    refine rb_push ?_
    refine rb_and ?_
    refine rb_iastL (xs' := [((((a) >>> (((24 : Int32)) &&& 31))) &&& ((255 : Int32))), ((((a) >>> (((16 : Int32)) &&& 31))) &&& ((255 : Int32))), ((((a) >>> (((8 : Int32)) &&& 31))) &&& ((255 : Int32))), ((((a) >>> (((0 : Int32)) &&& 31))) &&& ((255 : Int32))), ((((b) >>> (((24 : Int32)) &&& 31))) &&& ((255 : Int32)))] ++ List.replicate 91 0) rfl (by decide) (ok_lt (okA (okA (okA (okA (okL.sI (okA (okL.sI (okA (okL.sI (okA (okL.sI (okA (okL.sI (okA (okL.sI (okA (okL.sI (okA (okL.sI (okA (okL.sI (okA (okL.sI (okA (okL.sI (okA (okL.sI (okA s1_ok (c := 38) (n := 96) (by decide) rfl (by decide) rfl) _ _ _) (c := 38) (n := 96) (by decide) rfl (by decide) rfl) _ _ _) (c := 38) (n := 96) (by decide) rfl (by decide) rfl) _ _ _) (c := 38) (n := 96) (by decide) rfl (by decide) rfl) _ _ _) (c := 38) (n := 96) (by decide) rfl (by decide) rfl) _ _ _) (c := 38) (n := 96) (by decide) rfl (by decide) rfl) _ _ _) (c := 38) (n := 96) (by decide) rfl (by decide) rfl) _ _ _) (c := 38) (n := 96) (by decide) rfl (by decide) rfl) _ _ _) (c := 38) (n := 96) (by decide) rfl (by decide) rfl) _ _ _) (c := 38) (n := 96) (by decide) rfl (by decide) rfl) _ _ _) (c := 38) (n := 96) (by decide) rfl (by decide) rfl) _ _ _) (c := 38) (n := 96) (by decide) rfl (by decide) rfl) _ _ _) (c := 75) (n := 96) (by decide) rfl (by decide) rfl) (c := 75) (n := 96) (by decide) rfl (by decide) rfl) (c := 75) (n := 96) (by decide) rfl (by decide) rfl) (c := 75) (n := 96) (by decide) rfl (by decide) rfl) (c := 75) (n := 96) (by decide) rfl (by decide) (by decide)) rfl (wa_75 _ _) ?_
    refine rb_iinc (lv' := [some (.ref 68), some (.int (a)), some (.int (b)), some (.int (c)), some (.int 5), some (.int (b))]) rfl rfl ?_
    refine rb_goto ?_
    refine rn_step rfl ?_
    refine rb_iload rfl ?_
    refine rb_push ?_
    refine rb_cge (fun h => absurd h (by decide)) (fun _ => ?_)
    refine rb_iload rfl ?_
    refine rb_push ?_
    refine rb_cge (fun _ => ?_) (fun h => absurd (by decide) h)
    refine rn_step rfl ?_
    refine rb_iload rfl ?_
    refine rb_push ?_
    refine rb_cge (fun h => absurd h (by decide)) (fun _ => ?_)
    refine rb_iload rfl ?_
    refine rb_goto ?_
    refine rn_step rfl ?_
    refine rb_istore (lv' := [some (.ref 68), some (.int (a)), some (.int (b)), some (.int (c)), some (.int 5), some (.int (b))]) rfl ?_
    refine rb_aload rfl ?_
    refine rb_getf (v := .ref 75) rfl ?_
    refine rb_aload rfl ?_
    refine rb_getf (v := .int 0) rfl ?_
    refine rb_iload rfl ?_
    refine rb_binL (z := 5) (by decide) ?_
    refine rb_iload rfl ?_
    refine rb_push ?_
    refine rb_push ?_
    refine rb_iload rfl ?_
    refine rb_push ?_
    refine rb_divL (z := 1) (by decide) (by decide) ?_
    refine rb_binL (z := 8) (by decide) ?_
    refine rb_binL (z := 16) (by decide) ?_
    refine rb_shr ?_
    refine rb_push ?_
    refine rb_and ?_
    refine rb_iastL (xs' := [((((a) >>> (((24 : Int32)) &&& 31))) &&& ((255 : Int32))), ((((a) >>> (((16 : Int32)) &&& 31))) &&& ((255 : Int32))), ((((a) >>> (((8 : Int32)) &&& 31))) &&& ((255 : Int32))), ((((a) >>> (((0 : Int32)) &&& 31))) &&& ((255 : Int32))), ((((b) >>> (((24 : Int32)) &&& 31))) &&& ((255 : Int32))), ((((b) >>> (((16 : Int32)) &&& 31))) &&& ((255 : Int32)))] ++ List.replicate 90 0) rfl (by decide) (ok_lt (okA (okA (okA (okA (okA (okL.sI (okA (okL.sI (okA (okL.sI (okA (okL.sI (okA (okL.sI (okA (okL.sI (okA (okL.sI (okA (okL.sI (okA (okL.sI (okA (okL.sI (okA (okL.sI (okA (okL.sI (okA s1_ok (c := 38) (n := 96) (by decide) rfl (by decide) rfl) _ _ _) (c := 38) (n := 96) (by decide) rfl (by decide) rfl) _ _ _) (c := 38) (n := 96) (by decide) rfl (by decide) rfl) _ _ _) (c := 38) (n := 96) (by decide) rfl (by decide) rfl) _ _ _) (c := 38) (n := 96) (by decide) rfl (by decide) rfl) _ _ _) (c := 38) (n := 96) (by decide) rfl (by decide) rfl) _ _ _) (c := 38) (n := 96) (by decide) rfl (by decide) rfl) _ _ _) (c := 38) (n := 96) (by decide) rfl (by decide) rfl) _ _ _) (c := 38) (n := 96) (by decide) rfl (by decide) rfl) _ _ _) (c := 38) (n := 96) (by decide) rfl (by decide) rfl) _ _ _) (c := 38) (n := 96) (by decide) rfl (by decide) rfl) _ _ _) (c := 38) (n := 96) (by decide) rfl (by decide) rfl) _ _ _) (c := 75) (n := 96) (by decide) rfl (by decide) rfl) (c := 75) (n := 96) (by decide) rfl (by decide) rfl) (c := 75) (n := 96) (by decide) rfl (by decide) rfl) (c := 75) (n := 96) (by decide) rfl (by decide) rfl) (c := 75) (n := 96) (by decide) rfl (by decide) rfl) (c := 75) (n := 96) (by decide) rfl (by decide) (by decide)) rfl (wa_75 _ _) ?_
    refine rb_iinc (lv' := [some (.ref 68), some (.int (a)), some (.int (b)), some (.int (c)), some (.int 6), some (.int (b))]) rfl rfl ?_
    refine rb_goto ?_
    refine rn_step rfl ?_
    refine rb_iload rfl ?_
    refine rb_push ?_
    refine rb_cge (fun h => absurd h (by decide)) (fun _ => ?_)
    refine rb_iload rfl ?_
    refine rb_push ?_
    refine rb_cge (fun _ => ?_) (fun h => absurd (by decide) h)
    refine rn_step rfl ?_
    refine rb_iload rfl ?_
    refine rb_push ?_
    refine rb_cge (fun h => absurd h (by decide)) (fun _ => ?_)
    refine rb_iload rfl ?_
    refine rb_goto ?_
    refine rn_step rfl ?_
    refine rb_istore (lv' := [some (.ref 68), some (.int (a)), some (.int (b)), some (.int (c)), some (.int 6), some (.int (b))]) rfl ?_
    refine rb_aload rfl ?_
    refine rb_getf (v := .ref 75) rfl ?_
    refine rb_aload rfl ?_
    refine rb_getf (v := .int 0) rfl ?_
    refine rb_iload rfl ?_
    refine rb_binL (z := 6) (by decide) ?_
    refine rb_iload rfl ?_
    refine rb_push ?_
    refine rb_push ?_
    refine rb_iload rfl ?_
    refine rb_push ?_
    refine rb_divL (z := 2) (by decide) (by decide) ?_
    refine rb_binL (z := 16) (by decide) ?_
    refine rb_binL (z := 8) (by decide) ?_
    refine rb_shr ?_
    refine rb_push ?_
    refine rb_and ?_
    refine rb_iastL (xs' := [((((a) >>> (((24 : Int32)) &&& 31))) &&& ((255 : Int32))), ((((a) >>> (((16 : Int32)) &&& 31))) &&& ((255 : Int32))), ((((a) >>> (((8 : Int32)) &&& 31))) &&& ((255 : Int32))), ((((a) >>> (((0 : Int32)) &&& 31))) &&& ((255 : Int32))), ((((b) >>> (((24 : Int32)) &&& 31))) &&& ((255 : Int32))), ((((b) >>> (((16 : Int32)) &&& 31))) &&& ((255 : Int32))), ((((b) >>> (((8 : Int32)) &&& 31))) &&& ((255 : Int32)))] ++ List.replicate 89 0) rfl (by decide) (ok_lt (okA (okA (okA (okA (okA (okA (okL.sI (okA (okL.sI (okA (okL.sI (okA (okL.sI (okA (okL.sI (okA (okL.sI (okA (okL.sI (okA (okL.sI (okA (okL.sI (okA (okL.sI (okA (okL.sI (okA (okL.sI (okA s1_ok (c := 38) (n := 96) (by decide) rfl (by decide) rfl) _ _ _) (c := 38) (n := 96) (by decide) rfl (by decide) rfl) _ _ _) (c := 38) (n := 96) (by decide) rfl (by decide) rfl) _ _ _) (c := 38) (n := 96) (by decide) rfl (by decide) rfl) _ _ _) (c := 38) (n := 96) (by decide) rfl (by decide) rfl) _ _ _) (c := 38) (n := 96) (by decide) rfl (by decide) rfl) _ _ _) (c := 38) (n := 96) (by decide) rfl (by decide) rfl) _ _ _) (c := 38) (n := 96) (by decide) rfl (by decide) rfl) _ _ _) (c := 38) (n := 96) (by decide) rfl (by decide) rfl) _ _ _) (c := 38) (n := 96) (by decide) rfl (by decide) rfl) _ _ _) (c := 38) (n := 96) (by decide) rfl (by decide) rfl) _ _ _) (c := 38) (n := 96) (by decide) rfl (by decide) rfl) _ _ _) (c := 75) (n := 96) (by decide) rfl (by decide) rfl) (c := 75) (n := 96) (by decide) rfl (by decide) rfl) (c := 75) (n := 96) (by decide) rfl (by decide) rfl) (c := 75) (n := 96) (by decide) rfl (by decide) rfl) (c := 75) (n := 96) (by decide) rfl (by decide) rfl) (c := 75) (n := 96) (by decide) rfl (by decide) rfl) (c := 75) (n := 96) (by decide) rfl (by decide) (by decide)) rfl (wa_75 _ _) ?_
    refine rb_iinc (lv' := [some (.ref 68), some (.int (a)), some (.int (b)), some (.int (c)), some (.int 7), some (.int (b))]) rfl rfl ?_
    refine rb_goto ?_
    refine rn_step rfl ?_
    refine rb_iload rfl ?_
    refine rb_push ?_
    refine rb_cge (fun h => absurd h (by decide)) (fun _ => ?_)
    refine rb_iload rfl ?_
    refine rb_push ?_
    refine rb_cge (fun _ => ?_) (fun h => absurd (by decide) h)
    refine rn_step rfl ?_
    refine rb_iload rfl ?_
    refine rb_push ?_
    refine rb_cge (fun h => absurd h (by decide)) (fun _ => ?_)
    refine rb_iload rfl ?_
    refine rb_goto ?_
    refine rn_step rfl ?_
    refine rb_istore (lv' := [some (.ref 68), some (.int (a)), some (.int (b)), some (.int (c)), some (.int 7), some (.int (b))]) rfl ?_
    refine rb_aload rfl ?_
    refine rb_getf (v := .ref 75) rfl ?_
    refine rb_aload rfl ?_
    refine rb_getf (v := .int 0) rfl ?_
    refine rb_iload rfl ?_
    refine rb_binL (z := 7) (by decide) ?_
    refine rb_iload rfl ?_
    refine rb_push ?_
    refine rb_push ?_
    refine rb_iload rfl ?_
    refine rb_push ?_
    refine rb_divL (z := 3) (by decide) (by decide) ?_
    refine rb_binL (z := 24) (by decide) ?_
    refine rb_binL (z := 0) (by decide) ?_
    refine rb_shr ?_
    refine rb_push ?_
    refine rb_and ?_
    refine rb_iastL (xs' := [((((a) >>> (((24 : Int32)) &&& 31))) &&& ((255 : Int32))), ((((a) >>> (((16 : Int32)) &&& 31))) &&& ((255 : Int32))), ((((a) >>> (((8 : Int32)) &&& 31))) &&& ((255 : Int32))), ((((a) >>> (((0 : Int32)) &&& 31))) &&& ((255 : Int32))), ((((b) >>> (((24 : Int32)) &&& 31))) &&& ((255 : Int32))), ((((b) >>> (((16 : Int32)) &&& 31))) &&& ((255 : Int32))), ((((b) >>> (((8 : Int32)) &&& 31))) &&& ((255 : Int32))), ((((b) >>> (((0 : Int32)) &&& 31))) &&& ((255 : Int32)))] ++ List.replicate 88 0) rfl (by decide) (ok_lt (okA (okA (okA (okA (okA (okA (okA (okL.sI (okA (okL.sI (okA (okL.sI (okA (okL.sI (okA (okL.sI (okA (okL.sI (okA (okL.sI (okA (okL.sI (okA (okL.sI (okA (okL.sI (okA (okL.sI (okA (okL.sI (okA s1_ok (c := 38) (n := 96) (by decide) rfl (by decide) rfl) _ _ _) (c := 38) (n := 96) (by decide) rfl (by decide) rfl) _ _ _) (c := 38) (n := 96) (by decide) rfl (by decide) rfl) _ _ _) (c := 38) (n := 96) (by decide) rfl (by decide) rfl) _ _ _) (c := 38) (n := 96) (by decide) rfl (by decide) rfl) _ _ _) (c := 38) (n := 96) (by decide) rfl (by decide) rfl) _ _ _) (c := 38) (n := 96) (by decide) rfl (by decide) rfl) _ _ _) (c := 38) (n := 96) (by decide) rfl (by decide) rfl) _ _ _) (c := 38) (n := 96) (by decide) rfl (by decide) rfl) _ _ _) (c := 38) (n := 96) (by decide) rfl (by decide) rfl) _ _ _) (c := 38) (n := 96) (by decide) rfl (by decide) rfl) _ _ _) (c := 38) (n := 96) (by decide) rfl (by decide) rfl) _ _ _) (c := 75) (n := 96) (by decide) rfl (by decide) rfl) (c := 75) (n := 96) (by decide) rfl (by decide) rfl) (c := 75) (n := 96) (by decide) rfl (by decide) rfl) (c := 75) (n := 96) (by decide) rfl (by decide) rfl) (c := 75) (n := 96) (by decide) rfl (by decide) rfl) (c := 75) (n := 96) (by decide) rfl (by decide) rfl) (c := 75) (n := 96) (by decide) rfl (by decide) rfl) (c := 75) (n := 96) (by decide) rfl (by decide) (by decide)) rfl (wa_75 _ _) ?_
    refine rb_iinc (lv' := [some (.ref 68), some (.int (a)), some (.int (b)), some (.int (c)), some (.int 8), some (.int (b))]) rfl rfl ?_
    refine rb_goto ?_
    refine rn_step rfl ?_
    refine rb_iload rfl ?_
    refine rb_push ?_
    refine rb_cge (fun h => absurd h (by decide)) (fun _ => ?_)
    refine rb_iload rfl ?_
    refine rb_push ?_
    refine rb_cge (fun _ => ?_) (fun h => absurd (by decide) h)
    refine rn_step rfl ?_
    refine rb_iload rfl ?_
    refine rb_push ?_
    refine rb_cge (fun _ => ?_) (fun h => absurd (by decide) h)
    refine rn_step rfl ?_
    refine rb_iload rfl ?_
    refine rb_goto ?_
    refine rn_step rfl ?_
    refine rb_istore (lv' := [some (.ref 68), some (.int (a)), some (.int (b)), some (.int (c)), some (.int 8), some (.int (c))]) rfl ?_
    refine rb_aload rfl ?_
    refine rb_getf (v := .ref 75) rfl ?_
    refine rb_aload rfl ?_
    refine rb_getf (v := .int 0) rfl ?_
    refine rb_iload rfl ?_
    refine rb_binL (z := 8) (by decide) ?_
    refine rb_iload rfl ?_
    refine rb_push ?_
    refine rb_push ?_
    refine rb_iload rfl ?_
    refine rb_push ?_
    refine rb_divL (z := 0) (by decide) (by decide) ?_
    refine rb_binL (z := 0) (by decide) ?_
    refine rb_binL (z := 24) (by decide) ?_
    refine rb_shr ?_
    refine rb_push ?_
    refine rb_and ?_
    refine rb_iastL (xs' := [((((a) >>> (((24 : Int32)) &&& 31))) &&& ((255 : Int32))), ((((a) >>> (((16 : Int32)) &&& 31))) &&& ((255 : Int32))), ((((a) >>> (((8 : Int32)) &&& 31))) &&& ((255 : Int32))), ((((a) >>> (((0 : Int32)) &&& 31))) &&& ((255 : Int32))), ((((b) >>> (((24 : Int32)) &&& 31))) &&& ((255 : Int32))), ((((b) >>> (((16 : Int32)) &&& 31))) &&& ((255 : Int32))), ((((b) >>> (((8 : Int32)) &&& 31))) &&& ((255 : Int32))), ((((b) >>> (((0 : Int32)) &&& 31))) &&& ((255 : Int32))), ((((c) >>> (((24 : Int32)) &&& 31))) &&& ((255 : Int32)))] ++ List.replicate 87 0) rfl (by decide) (ok_lt (okA (okA (okA (okA (okA (okA (okA (okA (okL.sI (okA (okL.sI (okA (okL.sI (okA (okL.sI (okA (okL.sI (okA (okL.sI (okA (okL.sI (okA (okL.sI (okA (okL.sI (okA (okL.sI (okA (okL.sI (okA (okL.sI (okA s1_ok (c := 38) (n := 96) (by decide) rfl (by decide) rfl) _ _ _) (c := 38) (n := 96) (by decide) rfl (by decide) rfl) _ _ _) (c := 38) (n := 96) (by decide) rfl (by decide) rfl) _ _ _) (c := 38) (n := 96) (by decide) rfl (by decide) rfl) _ _ _) (c := 38) (n := 96) (by decide) rfl (by decide) rfl) _ _ _) (c := 38) (n := 96) (by decide) rfl (by decide) rfl) _ _ _) (c := 38) (n := 96) (by decide) rfl (by decide) rfl) _ _ _) (c := 38) (n := 96) (by decide) rfl (by decide) rfl) _ _ _) (c := 38) (n := 96) (by decide) rfl (by decide) rfl) _ _ _) (c := 38) (n := 96) (by decide) rfl (by decide) rfl) _ _ _) (c := 38) (n := 96) (by decide) rfl (by decide) rfl) _ _ _) (c := 38) (n := 96) (by decide) rfl (by decide) rfl) _ _ _) (c := 75) (n := 96) (by decide) rfl (by decide) rfl) (c := 75) (n := 96) (by decide) rfl (by decide) rfl) (c := 75) (n := 96) (by decide) rfl (by decide) rfl) (c := 75) (n := 96) (by decide) rfl (by decide) rfl) (c := 75) (n := 96) (by decide) rfl (by decide) rfl) (c := 75) (n := 96) (by decide) rfl (by decide) rfl) (c := 75) (n := 96) (by decide) rfl (by decide) rfl) (c := 75) (n := 96) (by decide) rfl (by decide) rfl) (c := 75) (n := 96) (by decide) rfl (by decide) (by decide)) rfl (wa_75 _ _) ?_
    refine rb_iinc (lv' := [some (.ref 68), some (.int (a)), some (.int (b)), some (.int (c)), some (.int 9), some (.int (c))]) rfl rfl ?_
    refine rb_goto ?_
    refine rn_step rfl ?_
    refine rb_iload rfl ?_
    refine rb_push ?_
    refine rb_cge (fun h => absurd h (by decide)) (fun _ => ?_)
    refine rb_iload rfl ?_
    refine rb_push ?_
    refine rb_cge (fun _ => ?_) (fun h => absurd (by decide) h)
    refine rn_step rfl ?_
    refine rb_iload rfl ?_
    refine rb_push ?_
    refine rb_cge (fun _ => ?_) (fun h => absurd (by decide) h)
    refine rn_step rfl ?_
    refine rb_iload rfl ?_
    refine rb_goto ?_
    refine rn_step rfl ?_
    refine rb_istore (lv' := [some (.ref 68), some (.int (a)), some (.int (b)), some (.int (c)), some (.int 9), some (.int (c))]) rfl ?_
    refine rb_aload rfl ?_
    refine rb_getf (v := .ref 75) rfl ?_
    refine rb_aload rfl ?_
    refine rb_getf (v := .int 0) rfl ?_
    refine rb_iload rfl ?_
    refine rb_binL (z := 9) (by decide) ?_
    refine rb_iload rfl ?_
    refine rb_push ?_
    refine rb_push ?_
    refine rb_iload rfl ?_
    refine rb_push ?_
    refine rb_divL (z := 1) (by decide) (by decide) ?_
    refine rb_binL (z := 8) (by decide) ?_
    refine rb_binL (z := 16) (by decide) ?_
    refine rb_shr ?_
    refine rb_push ?_
    refine rb_and ?_
    refine rb_iastL (xs' := [((((a) >>> (((24 : Int32)) &&& 31))) &&& ((255 : Int32))), ((((a) >>> (((16 : Int32)) &&& 31))) &&& ((255 : Int32))), ((((a) >>> (((8 : Int32)) &&& 31))) &&& ((255 : Int32))), ((((a) >>> (((0 : Int32)) &&& 31))) &&& ((255 : Int32))), ((((b) >>> (((24 : Int32)) &&& 31))) &&& ((255 : Int32))), ((((b) >>> (((16 : Int32)) &&& 31))) &&& ((255 : Int32))), ((((b) >>> (((8 : Int32)) &&& 31))) &&& ((255 : Int32))), ((((b) >>> (((0 : Int32)) &&& 31))) &&& ((255 : Int32))), ((((c) >>> (((24 : Int32)) &&& 31))) &&& ((255 : Int32))), ((((c) >>> (((16 : Int32)) &&& 31))) &&& ((255 : Int32)))] ++ List.replicate 86 0) rfl (by decide) (ok_lt (okA (okA (okA (okA (okA (okA (okA (okA (okA (okL.sI (okA (okL.sI (okA (okL.sI (okA (okL.sI (okA (okL.sI (okA (okL.sI (okA (okL.sI (okA (okL.sI (okA (okL.sI (okA (okL.sI (okA (okL.sI (okA (okL.sI (okA s1_ok (c := 38) (n := 96) (by decide) rfl (by decide) rfl) _ _ _) (c := 38) (n := 96) (by decide) rfl (by decide) rfl) _ _ _) (c := 38) (n := 96) (by decide) rfl (by decide) rfl) _ _ _) (c := 38) (n := 96) (by decide) rfl (by decide) rfl) _ _ _) (c := 38) (n := 96) (by decide) rfl (by decide) rfl) _ _ _) (c := 38) (n := 96) (by decide) rfl (by decide) rfl) _ _ _) (c := 38) (n := 96) (by decide) rfl (by decide) rfl) _ _ _) (c := 38) (n := 96) (by decide) rfl (by decide) rfl) _ _ _) (c := 38) (n := 96) (by decide) rfl (by decide) rfl) _ _ _) (c := 38) (n := 96) (by decide) rfl (by decide) rfl) _ _ _) (c := 38) (n := 96) (by decide) rfl (by decide) rfl) _ _ _) (c := 38) (n := 96) (by decide) rfl (by decide) rfl) _ _ _) (c := 75) (n := 96) (by decide) rfl (by decide) rfl) (c := 75) (n := 96) (by decide) rfl (by decide) rfl) (c := 75) (n := 96) (by decide) rfl (by decide) rfl) (c := 75) (n := 96) (by decide) rfl (by decide) rfl) (c := 75) (n := 96) (by decide) rfl (by decide) rfl) (c := 75) (n := 96) (by decide) rfl (by decide) rfl) (c := 75) (n := 96) (by decide) rfl (by decide) rfl) (c := 75) (n := 96) (by decide) rfl (by decide) rfl) (c := 75) (n := 96) (by decide) rfl (by decide) rfl) (c := 75) (n := 96) (by decide) rfl (by decide) (by decide)) rfl (wa_75 _ _) ?_
    refine rb_iinc (lv' := [some (.ref 68), some (.int (a)), some (.int (b)), some (.int (c)), some (.int 10), some (.int (c))]) rfl rfl ?_
    refine rb_goto ?_
    refine rn_step rfl ?_
    refine rb_iload rfl ?_
    refine rb_push ?_
    refine rb_cge (fun h => absurd h (by decide)) (fun _ => ?_)
    refine rb_iload rfl ?_
    refine rb_push ?_
    refine rb_cge (fun _ => ?_) (fun h => absurd (by decide) h)
    refine rn_step rfl ?_
    refine rb_iload rfl ?_
    refine rb_push ?_
    refine rb_cge (fun _ => ?_) (fun h => absurd (by decide) h)
    refine rn_step rfl ?_
    refine rb_iload rfl ?_
    refine rb_goto ?_
    refine rn_step rfl ?_
    refine rb_istore (lv' := [some (.ref 68), some (.int (a)), some (.int (b)), some (.int (c)), some (.int 10), some (.int (c))]) rfl ?_
    refine rb_aload rfl ?_
    refine rb_getf (v := .ref 75) rfl ?_
    refine rb_aload rfl ?_
    refine rb_getf (v := .int 0) rfl ?_
    refine rb_iload rfl ?_
    refine rb_binL (z := 10) (by decide) ?_
    refine rb_iload rfl ?_
    refine rb_push ?_
    refine rb_push ?_
    refine rb_iload rfl ?_
    refine rb_push ?_
    refine rb_divL (z := 2) (by decide) (by decide) ?_
    refine rb_binL (z := 16) (by decide) ?_
    refine rb_binL (z := 8) (by decide) ?_
    refine rb_shr ?_
    refine rb_push ?_
    refine rb_and ?_
    refine rb_iastL (xs' := [((((a) >>> (((24 : Int32)) &&& 31))) &&& ((255 : Int32))), ((((a) >>> (((16 : Int32)) &&& 31))) &&& ((255 : Int32))), ((((a) >>> (((8 : Int32)) &&& 31))) &&& ((255 : Int32))), ((((a) >>> (((0 : Int32)) &&& 31))) &&& ((255 : Int32))), ((((b) >>> (((24 : Int32)) &&& 31))) &&& ((255 : Int32))), ((((b) >>> (((16 : Int32)) &&& 31))) &&& ((255 : Int32))), ((((b) >>> (((8 : Int32)) &&& 31))) &&& ((255 : Int32))), ((((b) >>> (((0 : Int32)) &&& 31))) &&& ((255 : Int32))), ((((c) >>> (((24 : Int32)) &&& 31))) &&& ((255 : Int32))), ((((c) >>> (((16 : Int32)) &&& 31))) &&& ((255 : Int32))), ((((c) >>> (((8 : Int32)) &&& 31))) &&& ((255 : Int32)))] ++ List.replicate 85 0) rfl (by decide) (ok_lt (okA (okA (okA (okA (okA (okA (okA (okA (okA (okA (okL.sI (okA (okL.sI (okA (okL.sI (okA (okL.sI (okA (okL.sI (okA (okL.sI (okA (okL.sI (okA (okL.sI (okA (okL.sI (okA (okL.sI (okA (okL.sI (okA (okL.sI (okA s1_ok (c := 38) (n := 96) (by decide) rfl (by decide) rfl) _ _ _) (c := 38) (n := 96) (by decide) rfl (by decide) rfl) _ _ _) (c := 38) (n := 96) (by decide) rfl (by decide) rfl) _ _ _) (c := 38) (n := 96) (by decide) rfl (by decide) rfl) _ _ _) (c := 38) (n := 96) (by decide) rfl (by decide) rfl) _ _ _) (c := 38) (n := 96) (by decide) rfl (by decide) rfl) _ _ _) (c := 38) (n := 96) (by decide) rfl (by decide) rfl) _ _ _) (c := 38) (n := 96) (by decide) rfl (by decide) rfl) _ _ _) (c := 38) (n := 96) (by decide) rfl (by decide) rfl) _ _ _) (c := 38) (n := 96) (by decide) rfl (by decide) rfl) _ _ _) (c := 38) (n := 96) (by decide) rfl (by decide) rfl) _ _ _) (c := 38) (n := 96) (by decide) rfl (by decide) rfl) _ _ _) (c := 75) (n := 96) (by decide) rfl (by decide) rfl) (c := 75) (n := 96) (by decide) rfl (by decide) rfl) (c := 75) (n := 96) (by decide) rfl (by decide) rfl) (c := 75) (n := 96) (by decide) rfl (by decide) rfl) (c := 75) (n := 96) (by decide) rfl (by decide) rfl) (c := 75) (n := 96) (by decide) rfl (by decide) rfl) (c := 75) (n := 96) (by decide) rfl (by decide) rfl) (c := 75) (n := 96) (by decide) rfl (by decide) rfl) (c := 75) (n := 96) (by decide) rfl (by decide) rfl) (c := 75) (n := 96) (by decide) rfl (by decide) rfl) (c := 75) (n := 96) (by decide) rfl (by decide) (by decide)) rfl (wa_75 _ _) ?_
    refine rb_iinc (lv' := [some (.ref 68), some (.int (a)), some (.int (b)), some (.int (c)), some (.int 11), some (.int (c))]) rfl rfl ?_
    refine rb_goto ?_
    refine rn_step rfl ?_
    refine rb_iload rfl ?_
    refine rb_push ?_
    refine rb_cge (fun h => absurd h (by decide)) (fun _ => ?_)
    refine rb_iload rfl ?_
    refine rb_push ?_
    refine rb_cge (fun _ => ?_) (fun h => absurd (by decide) h)
    refine rn_step rfl ?_
    refine rb_iload rfl ?_
    refine rb_push ?_
    refine rb_cge (fun _ => ?_) (fun h => absurd (by decide) h)
    refine rn_step rfl ?_
    refine rb_iload rfl ?_
    refine rb_goto ?_
    refine rn_step rfl ?_
    refine rb_istore (lv' := [some (.ref 68), some (.int (a)), some (.int (b)), some (.int (c)), some (.int 11), some (.int (c))]) rfl ?_
    refine rb_aload rfl ?_
    refine rb_getf (v := .ref 75) rfl ?_
    refine rb_aload rfl ?_
    refine rb_getf (v := .int 0) rfl ?_
    refine rb_iload rfl ?_
    refine rb_binL (z := 11) (by decide) ?_
    refine rb_iload rfl ?_
    refine rb_push ?_
    refine rb_push ?_
    refine rb_iload rfl ?_
    refine rb_push ?_
    refine rb_divL (z := 3) (by decide) (by decide) ?_
    refine rb_binL (z := 24) (by decide) ?_
    refine rb_binL (z := 0) (by decide) ?_
    refine rb_shr ?_
    refine rb_push ?_
    refine rb_and ?_
    refine rb_iastL (xs' := [((((a) >>> (((24 : Int32)) &&& 31))) &&& ((255 : Int32))), ((((a) >>> (((16 : Int32)) &&& 31))) &&& ((255 : Int32))), ((((a) >>> (((8 : Int32)) &&& 31))) &&& ((255 : Int32))), ((((a) >>> (((0 : Int32)) &&& 31))) &&& ((255 : Int32))), ((((b) >>> (((24 : Int32)) &&& 31))) &&& ((255 : Int32))), ((((b) >>> (((16 : Int32)) &&& 31))) &&& ((255 : Int32))), ((((b) >>> (((8 : Int32)) &&& 31))) &&& ((255 : Int32))), ((((b) >>> (((0 : Int32)) &&& 31))) &&& ((255 : Int32))), ((((c) >>> (((24 : Int32)) &&& 31))) &&& ((255 : Int32))), ((((c) >>> (((16 : Int32)) &&& 31))) &&& ((255 : Int32))), ((((c) >>> (((8 : Int32)) &&& 31))) &&& ((255 : Int32))), ((((c) >>> (((0 : Int32)) &&& 31))) &&& ((255 : Int32)))] ++ List.replicate 84 0) rfl (by decide) (ok_lt (okA (okA (okA (okA (okA (okA (okA (okA (okA (okA (okA (okL.sI (okA (okL.sI (okA (okL.sI (okA (okL.sI (okA (okL.sI (okA (okL.sI (okA (okL.sI (okA (okL.sI (okA (okL.sI (okA (okL.sI (okA (okL.sI (okA (okL.sI (okA s1_ok (c := 38) (n := 96) (by decide) rfl (by decide) rfl) _ _ _) (c := 38) (n := 96) (by decide) rfl (by decide) rfl) _ _ _) (c := 38) (n := 96) (by decide) rfl (by decide) rfl) _ _ _) (c := 38) (n := 96) (by decide) rfl (by decide) rfl) _ _ _) (c := 38) (n := 96) (by decide) rfl (by decide) rfl) _ _ _) (c := 38) (n := 96) (by decide) rfl (by decide) rfl) _ _ _) (c := 38) (n := 96) (by decide) rfl (by decide) rfl) _ _ _) (c := 38) (n := 96) (by decide) rfl (by decide) rfl) _ _ _) (c := 38) (n := 96) (by decide) rfl (by decide) rfl) _ _ _) (c := 38) (n := 96) (by decide) rfl (by decide) rfl) _ _ _) (c := 38) (n := 96) (by decide) rfl (by decide) rfl) _ _ _) (c := 38) (n := 96) (by decide) rfl (by decide) rfl) _ _ _) (c := 75) (n := 96) (by decide) rfl (by decide) rfl) (c := 75) (n := 96) (by decide) rfl (by decide) rfl) (c := 75) (n := 96) (by decide) rfl (by decide) rfl) (c := 75) (n := 96) (by decide) rfl (by decide) rfl) (c := 75) (n := 96) (by decide) rfl (by decide) rfl) (c := 75) (n := 96) (by decide) rfl (by decide) rfl) (c := 75) (n := 96) (by decide) rfl (by decide) rfl) (c := 75) (n := 96) (by decide) rfl (by decide) rfl) (c := 75) (n := 96) (by decide) rfl (by decide) rfl) (c := 75) (n := 96) (by decide) rfl (by decide) rfl) (c := 75) (n := 96) (by decide) rfl (by decide) rfl) (c := 75) (n := 96) (by decide) rfl (by decide) (by decide)) rfl (wa_75 _ _) ?_
    refine rb_iinc (lv' := [some (.ref 68), some (.int (a)), some (.int (b)), some (.int (c)), some (.int 12), some (.int (c))]) rfl rfl ?_
    refine rb_goto ?_
    refine rn_step rfl ?_
    refine rb_iload rfl ?_
    refine rb_push ?_
    refine rb_cge (fun _ => ?_) (fun h => absurd (by decide) h)
    refine rn_step rfl ?_
    refine rb_aload rfl ?_
    refine rb_dupR ?_
    refine rb_getf (v := .int 0) rfl ?_
    refine rb_push ?_
    refine rb_binL (z := 12) (by decide) ?_
    refine rb_putI (pf_68_9 _ _) ?_
    refine rb_aload rfl ?_
    refine rb_getf (v := .int 12) rfl ?_
    refine rb_ret rfl rfl
  case h3 => exact (okL.sI (okA (okA (okA (okA (okA (okA (okA (okA (okA (okA (okA (okA (okL.sI (okA (okL.sI (okA (okL.sI (okA (okL.sI (okA (okL.sI (okA (okL.sI (okA (okL.sI (okA (okL.sI (okA (okL.sI (okA (okL.sI (okA (okL.sI (okA (okL.sI (okA s1_ok (c := 38) (n := 96) (by decide) rfl (by decide) rfl) _ _ _) (c := 38) (n := 96) (by decide) rfl (by decide) rfl) _ _ _) (c := 38) (n := 96) (by decide) rfl (by decide) rfl) _ _ _) (c := 38) (n := 96) (by decide) rfl (by decide) rfl) _ _ _) (c := 38) (n := 96) (by decide) rfl (by decide) rfl) _ _ _) (c := 38) (n := 96) (by decide) rfl (by decide) rfl) _ _ _) (c := 38) (n := 96) (by decide) rfl (by decide) rfl) _ _ _) (c := 38) (n := 96) (by decide) rfl (by decide) rfl) _ _ _) (c := 38) (n := 96) (by decide) rfl (by decide) rfl) _ _ _) (c := 38) (n := 96) (by decide) rfl (by decide) rfl) _ _ _) (c := 38) (n := 96) (by decide) rfl (by decide) rfl) _ _ _) (c := 38) (n := 96) (by decide) rfl (by decide) rfl) _ _ _) (c := 75) (n := 96) (by decide) rfl (by decide) rfl) (c := 75) (n := 96) (by decide) rfl (by decide) rfl) (c := 75) (n := 96) (by decide) rfl (by decide) rfl) (c := 75) (n := 96) (by decide) rfl (by decide) rfl) (c := 75) (n := 96) (by decide) rfl (by decide) rfl) (c := 75) (n := 96) (by decide) rfl (by decide) rfl) (c := 75) (n := 96) (by decide) rfl (by decide) rfl) (c := 75) (n := 96) (by decide) rfl (by decide) rfl) (c := 75) (n := 96) (by decide) rfl (by decide) rfl) (c := 75) (n := 96) (by decide) rfl (by decide) rfl) (c := 75) (n := 96) (by decide) rfl (by decide) rfl) (c := 75) (n := 96) (by decide) rfl (by decide) rfl) _ _ _)
  case h4 => exact rfl
set_option maxRecDepth 1000000 in
theorem bx_ask_48 : ∀ n0 : Nat, n0 < 5 → ∀ n1 : Nat, n1 < 6 → ck 111 214 [.int (Int32.ofInt (0 + (n0 : Int))), .int (Int32.ofInt (0 + (n1 : Int)))] = true := by decide +kernel
set_option maxRecDepth 1000000 in
set_option maxHeartbeats 40000000 in
theorem p1_ask (a b : Int32) : P1 111 214 [.int a, .int b] := by
  have hla : -2147483648 ≤ a.toInt := ia_lo a
  have hha : a.toInt ≤ 2147483647 := ia_hi a
  have hlb : -2147483648 ≤ b.toInt := ia_lo b
  have hhb : b.toInt ≤ 2147483647 := ia_hi b
  rcases ia_cut (c := 0) hla hha with ⟨hla, hha⟩ | ⟨hla, hha⟩
  ·
    apply p1_intro (v := (-1000000001))
    case h1 =>
      apply ex_X8_ask
      refine rn_step rfl ?_
      refine rb_iload rfl ?_
      apply rb_callS1
      case hcl => exact rfl
      case hc =>
        apply ex_X8_isSlot
        refine rn_step rfl ?_
        refine rb_iload rfl ?_
        refine rb_push ?_
        refine rb_push ?_
        apply rb_callS3
        case hcl => exact rfl
        case hc =>
          apply ex_X8_within
          refine rn_step rfl ?_
          refine rb_iload rfl ?_
          refine rb_iload rfl ?_
          refine rb_clt (fun _ => ?_) (fun h => absurd (ia_lt hha (by decide)) h)
          refine rn_step rfl ?_
          refine rb_push ?_
          refine rb_goto ?_
          refine rn_step rfl ?_
          refine rb_ret rfl rfl
        refine rb_ret rfl rfl
      refine rb_ieq (fun _ => ?_) (fun h => absurd (by decide) h)
      refine rn_step rfl ?_
      refine rb_push ?_
      refine rb_ret rfl rfl
    case h2 =>
      apply ex_X9_ask
      refine rn_step rfl ?_
      refine rb_iload rfl ?_
      apply rb_callS1
      case hcl => exact rfl
      case hc =>
        apply ex_X9_isSlot
        refine rn_step rfl ?_
        refine rb_iload rfl ?_
        refine rb_push ?_
        refine rb_push ?_
        apply rb_callS3
        case hcl => exact rfl
        case hc =>
          apply ex_X9_in
          refine rn_step rfl ?_
          refine rb_iload rfl ?_
          refine rb_iload rfl ?_
          refine rb_clt (fun _ => ?_) (fun h => absurd (ia_lt hha (by decide)) h)
          refine rn_step rfl ?_
          refine rb_push ?_
          refine rb_goto ?_
          refine rn_step rfl ?_
          refine rb_ret rfl rfl
        refine rb_ret rfl rfl
      refine rb_ieq (fun _ => ?_) (fun h => absurd (by decide) h)
      refine rn_step rfl ?_
      refine rb_push ?_
      refine rb_ret rfl rfl
    case h3 => exact s1_ok
    case h4 => exact rfl
  ·
    rcases ia_cut (c := 5) hla hha with ⟨hla, hha⟩ | ⟨hla, hha⟩
    ·
      rcases ia_cut (c := 0) hlb hhb with ⟨hlb, hhb⟩ | ⟨hlb, hhb⟩
      ·
        apply p1_intro (v := (-1000000001))
        case h1 =>
          apply ex_X8_ask
          refine rn_step rfl ?_
          refine rb_iload rfl ?_
          apply rb_callS1
          case hcl => exact rfl
          case hc =>
            apply ex_X8_isSlot
            refine rn_step rfl ?_
            refine rb_iload rfl ?_
            refine rb_push ?_
            refine rb_push ?_
            apply rb_callS3
            case hcl => exact rfl
            case hc =>
              apply ex_X8_within
              refine rn_step rfl ?_
              refine rb_iload rfl ?_
              refine rb_iload rfl ?_
              refine rb_clt (fun h => absurd h (ia_nlt hla (by decide))) (fun _ => ?_)
              refine rb_iload rfl ?_
              refine rb_iload rfl ?_
              refine rb_cgt (fun h => absurd h (ia_ngt hha (by decide))) (fun _ => ?_)
              refine rb_push ?_
              refine rb_goto ?_
              refine rn_step rfl ?_
              refine rb_ret rfl rfl
            refine rb_ret rfl rfl
          refine rb_ieq (fun h => absurd h (by decide)) (fun _ => ?_)
          refine rb_iload rfl ?_
          refine rb_push ?_
          refine rb_push ?_
          apply rb_callS3
          case hcl => exact rfl
          case hc =>
            apply ex_X8_within
            refine rn_step rfl ?_
            refine rb_iload rfl ?_
            refine rb_iload rfl ?_
            refine rb_clt (fun _ => ?_) (fun h => absurd (ia_lt hhb (by decide)) h)
            refine rn_step rfl ?_
            refine rb_push ?_
            refine rb_goto ?_
            refine rn_step rfl ?_
            refine rb_ret rfl rfl
          refine rb_ine (fun h => absurd (by decide) h) (fun _ => ?_)
          refine rb_goto ?_
          refine rn_step rfl ?_
          refine rb_push ?_
          refine rb_ret rfl rfl
        case h2 =>
          apply ex_X9_ask
          refine rn_step rfl ?_
          refine rb_iload rfl ?_
          apply rb_callS1
          case hcl => exact rfl
          case hc =>
            apply ex_X9_isSlot
            refine rn_step rfl ?_
            refine rb_iload rfl ?_
            refine rb_push ?_
            refine rb_push ?_
            apply rb_callS3
            case hcl => exact rfl
            case hc =>
              apply ex_X9_in
              refine rn_step rfl ?_
              refine rb_iload rfl ?_
              refine rb_iload rfl ?_
              refine rb_clt (fun h => absurd h (ia_nlt hla (by decide))) (fun _ => ?_)
              refine rb_iload rfl ?_
              refine rb_iload rfl ?_
              refine rb_cgt (fun h => absurd h (ia_ngt hha (by decide))) (fun _ => ?_)
              refine rb_push ?_
              refine rb_goto ?_
              refine rn_step rfl ?_
              refine rb_ret rfl rfl
            refine rb_ret rfl rfl
          refine rb_ieq (fun h => absurd h (by decide)) (fun _ => ?_)
          refine rb_iload rfl ?_
          refine rb_push ?_
          refine rb_push ?_
          apply rb_callS3
          case hcl => exact rfl
          case hc =>
            apply ex_X9_in
            refine rn_step rfl ?_
            refine rb_iload rfl ?_
            refine rb_iload rfl ?_
            refine rb_clt (fun _ => ?_) (fun h => absurd (ia_lt hhb (by decide)) h)
            refine rn_step rfl ?_
            refine rb_push ?_
            refine rb_goto ?_
            refine rn_step rfl ?_
            refine rb_ret rfl rfl
          refine rb_ine (fun h => absurd (by decide) h) (fun _ => ?_)
          refine rb_goto ?_
          refine rn_step rfl ?_
          refine rb_push ?_
          refine rb_ret rfl rfl
        case h3 => exact s1_ok
        case h4 => exact rfl
      ·
        rcases ia_cut (c := 6) hlb hhb with ⟨hlb, hhb⟩ | ⟨hlb, hhb⟩
        ·
          -- box [(0, 4), (0, 5)]
          obtain ⟨n0, hn0, rfl⟩ := ia_box (l := 0) (m := 5) hla hha (by decide) (by decide)
          obtain ⟨n1, hn1, rfl⟩ := ia_box (l := 0) (m := 6) hlb hhb (by decide) (by decide)
          exact ck_ok (bx_ask_48 n0 hn0 n1 hn1)
        ·
          apply p1_intro (v := (-1000000001))
          case h1 =>
            apply ex_X8_ask
            refine rn_step rfl ?_
            refine rb_iload rfl ?_
            apply rb_callS1
            case hcl => exact rfl
            case hc =>
              apply ex_X8_isSlot
              refine rn_step rfl ?_
              refine rb_iload rfl ?_
              refine rb_push ?_
              refine rb_push ?_
              apply rb_callS3
              case hcl => exact rfl
              case hc =>
                apply ex_X8_within
                refine rn_step rfl ?_
                refine rb_iload rfl ?_
                refine rb_iload rfl ?_
                refine rb_clt (fun h => absurd h (ia_nlt hla (by decide))) (fun _ => ?_)
                refine rb_iload rfl ?_
                refine rb_iload rfl ?_
                refine rb_cgt (fun h => absurd h (ia_ngt hha (by decide))) (fun _ => ?_)
                refine rb_push ?_
                refine rb_goto ?_
                refine rn_step rfl ?_
                refine rb_ret rfl rfl
              refine rb_ret rfl rfl
            refine rb_ieq (fun h => absurd h (by decide)) (fun _ => ?_)
            refine rb_iload rfl ?_
            refine rb_push ?_
            refine rb_push ?_
            apply rb_callS3
            case hcl => exact rfl
            case hc =>
              apply ex_X8_within
              refine rn_step rfl ?_
              refine rb_iload rfl ?_
              refine rb_iload rfl ?_
              refine rb_clt (fun h => absurd h (ia_nlt hlb (by decide))) (fun _ => ?_)
              refine rb_iload rfl ?_
              refine rb_iload rfl ?_
              refine rb_cgt (fun _ => ?_) (fun h => absurd (ia_gt hlb (by decide)) h)
              refine rn_step rfl ?_
              refine rb_push ?_
              refine rb_goto ?_
              refine rn_step rfl ?_
              refine rb_ret rfl rfl
            refine rb_ine (fun h => absurd (by decide) h) (fun _ => ?_)
            refine rb_goto ?_
            refine rn_step rfl ?_
            refine rb_push ?_
            refine rb_ret rfl rfl
          case h2 =>
            apply ex_X9_ask
            refine rn_step rfl ?_
            refine rb_iload rfl ?_
            apply rb_callS1
            case hcl => exact rfl
            case hc =>
              apply ex_X9_isSlot
              refine rn_step rfl ?_
              refine rb_iload rfl ?_
              refine rb_push ?_
              refine rb_push ?_
              apply rb_callS3
              case hcl => exact rfl
              case hc =>
                apply ex_X9_in
                refine rn_step rfl ?_
                refine rb_iload rfl ?_
                refine rb_iload rfl ?_
                refine rb_clt (fun h => absurd h (ia_nlt hla (by decide))) (fun _ => ?_)
                refine rb_iload rfl ?_
                refine rb_iload rfl ?_
                refine rb_cgt (fun h => absurd h (ia_ngt hha (by decide))) (fun _ => ?_)
                refine rb_push ?_
                refine rb_goto ?_
                refine rn_step rfl ?_
                refine rb_ret rfl rfl
              refine rb_ret rfl rfl
            refine rb_ieq (fun h => absurd h (by decide)) (fun _ => ?_)
            refine rb_iload rfl ?_
            refine rb_push ?_
            refine rb_push ?_
            apply rb_callS3
            case hcl => exact rfl
            case hc =>
              apply ex_X9_in
              refine rn_step rfl ?_
              refine rb_iload rfl ?_
              refine rb_iload rfl ?_
              refine rb_clt (fun h => absurd h (ia_nlt hlb (by decide))) (fun _ => ?_)
              refine rb_iload rfl ?_
              refine rb_iload rfl ?_
              refine rb_cgt (fun _ => ?_) (fun h => absurd (ia_gt hlb (by decide)) h)
              refine rn_step rfl ?_
              refine rb_push ?_
              refine rb_goto ?_
              refine rn_step rfl ?_
              refine rb_ret rfl rfl
            refine rb_ine (fun h => absurd (by decide) h) (fun _ => ?_)
            refine rb_goto ?_
            refine rn_step rfl ?_
            refine rb_push ?_
            refine rb_ret rfl rfl
          case h3 => exact s1_ok
          case h4 => exact rfl
    ·
      apply p1_intro (v := (-1000000001))
      case h1 =>
        apply ex_X8_ask
        refine rn_step rfl ?_
        refine rb_iload rfl ?_
        apply rb_callS1
        case hcl => exact rfl
        case hc =>
          apply ex_X8_isSlot
          refine rn_step rfl ?_
          refine rb_iload rfl ?_
          refine rb_push ?_
          refine rb_push ?_
          apply rb_callS3
          case hcl => exact rfl
          case hc =>
            apply ex_X8_within
            refine rn_step rfl ?_
            refine rb_iload rfl ?_
            refine rb_iload rfl ?_
            refine rb_clt (fun h => absurd h (ia_nlt hla (by decide))) (fun _ => ?_)
            refine rb_iload rfl ?_
            refine rb_iload rfl ?_
            refine rb_cgt (fun _ => ?_) (fun h => absurd (ia_gt hla (by decide)) h)
            refine rn_step rfl ?_
            refine rb_push ?_
            refine rb_goto ?_
            refine rn_step rfl ?_
            refine rb_ret rfl rfl
          refine rb_ret rfl rfl
        refine rb_ieq (fun _ => ?_) (fun h => absurd (by decide) h)
        refine rn_step rfl ?_
        refine rb_push ?_
        refine rb_ret rfl rfl
      case h2 =>
        apply ex_X9_ask
        refine rn_step rfl ?_
        refine rb_iload rfl ?_
        apply rb_callS1
        case hcl => exact rfl
        case hc =>
          apply ex_X9_isSlot
          refine rn_step rfl ?_
          refine rb_iload rfl ?_
          refine rb_push ?_
          refine rb_push ?_
          apply rb_callS3
          case hcl => exact rfl
          case hc =>
            apply ex_X9_in
            refine rn_step rfl ?_
            refine rb_iload rfl ?_
            refine rb_iload rfl ?_
            refine rb_clt (fun h => absurd h (ia_nlt hla (by decide))) (fun _ => ?_)
            refine rb_iload rfl ?_
            refine rb_iload rfl ?_
            refine rb_cgt (fun _ => ?_) (fun h => absurd (ia_gt hla (by decide)) h)
            refine rn_step rfl ?_
            refine rb_push ?_
            refine rb_goto ?_
            refine rn_step rfl ?_
            refine rb_ret rfl rfl
          refine rb_ret rfl rfl
        refine rb_ieq (fun _ => ?_) (fun h => absurd (by decide) h)
        refine rn_step rfl ?_
        refine rb_push ?_
        refine rb_ret rfl rfl
      case h3 => exact s1_ok
      case h4 => exact rfl
set_option maxRecDepth 1000000 in
set_option maxHeartbeats 40000000 in
theorem p1_item (a b : Int32) : P1 112 215 [.int a, .int b] := by
  have hla : -2147483648 ≤ a.toInt := ia_lo a
  have hha : a.toInt ≤ 2147483647 := ia_hi a
  have hlb : -2147483648 ≤ b.toInt := ia_lo b
  have hhb : b.toInt ≤ 2147483647 := ia_hi b
  rcases ia_cut (c := 0) hla hha with ⟨hla, hha⟩ | ⟨hla, hha⟩
  ·
    apply p1_intro (v := (-1000000001))
    case h1 =>
      apply ex_X8_item
      refine rn_step rfl ?_
      refine rb_iload rfl ?_
      apply rb_callS1
      case hcl => exact rfl
      case hc =>
        apply ex_X8_isSlot
        refine rn_step rfl ?_
        refine rb_iload rfl ?_
        refine rb_push ?_
        refine rb_push ?_
        apply rb_callS3
        case hcl => exact rfl
        case hc =>
          apply ex_X8_within
          refine rn_step rfl ?_
          refine rb_iload rfl ?_
          refine rb_iload rfl ?_
          refine rb_clt (fun _ => ?_) (fun h => absurd (ia_lt hha (by decide)) h)
          refine rn_step rfl ?_
          refine rb_push ?_
          refine rb_goto ?_
          refine rn_step rfl ?_
          refine rb_ret rfl rfl
        refine rb_ret rfl rfl
      refine rb_ine (fun h => absurd (by decide) h) (fun _ => ?_)
      refine rb_push ?_
      refine rb_ret rfl rfl
    case h2 =>
      apply ex_X9_item
      refine rn_step rfl ?_
      refine rb_iload rfl ?_
      apply rb_callS1
      case hcl => exact rfl
      case hc =>
        apply ex_X9_isSlot
        refine rn_step rfl ?_
        refine rb_iload rfl ?_
        refine rb_push ?_
        refine rb_push ?_
        apply rb_callS3
        case hcl => exact rfl
        case hc =>
          apply ex_X9_in
          refine rn_step rfl ?_
          refine rb_iload rfl ?_
          refine rb_iload rfl ?_
          refine rb_clt (fun _ => ?_) (fun h => absurd (ia_lt hha (by decide)) h)
          refine rn_step rfl ?_
          refine rb_push ?_
          refine rb_goto ?_
          refine rn_step rfl ?_
          refine rb_ret rfl rfl
        refine rb_ret rfl rfl
      refine rb_ine (fun h => absurd (by decide) h) (fun _ => ?_)
      refine rb_push ?_
      refine rb_ret rfl rfl
    case h3 => exact s1_ok
    case h4 => exact rfl
  ·
    rcases ia_cut (c := 5) hla hha with ⟨hla, hha⟩ | ⟨hla, hha⟩
    ·
      rcases ia_cut (c := 1) hla hha with ⟨hla, hha⟩ | ⟨hla, hha⟩
      ·
        obtain rfl : a = 0 := ia_one hla hha (by decide) (by decide)
        apply p1_intro (v := (-1000000011))
        case h1 =>
          apply ex_X8_item
          refine rn_step rfl ?_
          refine rb_iload rfl ?_
          apply rb_callS1
          case hcl => exact rfl
          case hc =>
            apply ex_X8_isSlot
            refine rn_step rfl ?_
            refine rb_iload rfl ?_
            refine rb_push ?_
            refine rb_push ?_
            apply rb_callS3
            case hcl => exact rfl
            case hc =>
              apply ex_X8_within
              refine rn_step rfl ?_
              refine rb_iload rfl ?_
              refine rb_iload rfl ?_
              refine rb_clt (fun h => absurd h (by decide)) (fun _ => ?_)
              refine rb_iload rfl ?_
              refine rb_iload rfl ?_
              refine rb_cgt (fun h => absurd h (by decide)) (fun _ => ?_)
              refine rb_push ?_
              refine rb_goto ?_
              refine rn_step rfl ?_
              refine rb_ret rfl rfl
            refine rb_ret rfl rfl
          refine rb_ine (fun _ => ?_) (fun h => absurd (by decide) h)
          refine rn_step rfl ?_
          refine rb_aload rfl ?_
          refine rb_iload rfl ?_
          refine rb_push ?_
          apply rb_callV2
          case hb => exact rfl
          case hcl => exact rfl
          case hc =>
            apply ex_X8_lookFor
            refine rn_step rfl ?_
            refine rb_aload rfl ?_
            refine rb_getf (v := .ref 43) rfl ?_
            refine rb_iload rfl ?_
            refine rb_aaldR rfl (by decide) rfl ?_
            refine rb_getf (v := .int 0) rfl ?_
            refine rb_ine (fun h => absurd (by decide) h) (fun _ => ?_)
            refine rb_push ?_
            refine rb_ret rfl rfl
          refine rb_istore (lv' := [some (.ref 0), some (.int 0), some (.int (b)), some (.int (-1000000011)), none]) rfl ?_
          refine rb_iload rfl ?_
          refine rb_ieq (fun h => absurd h (by decide)) (fun _ => ?_)
          refine rb_iload rfl ?_
          refine rb_ret rfl rfl
        case h2 =>
          apply ex_X9_item
          refine rn_step rfl ?_
          refine rb_iload rfl ?_
          apply rb_callS1
          case hcl => exact rfl
          case hc =>
            apply ex_X9_isSlot
            refine rn_step rfl ?_
            refine rb_iload rfl ?_
            refine rb_push ?_
            refine rb_push ?_
            apply rb_callS3
            case hcl => exact rfl
            case hc =>
              apply ex_X9_in
              refine rn_step rfl ?_
              refine rb_iload rfl ?_
              refine rb_iload rfl ?_
              refine rb_clt (fun h => absurd h (by decide)) (fun _ => ?_)
              refine rb_iload rfl ?_
              refine rb_iload rfl ?_
              refine rb_cgt (fun h => absurd h (by decide)) (fun _ => ?_)
              refine rb_push ?_
              refine rb_goto ?_
              refine rn_step rfl ?_
              refine rb_ret rfl rfl
            refine rb_ret rfl rfl
          refine rb_ine (fun _ => ?_) (fun h => absurd (by decide) h)
          refine rn_step rfl ?_
          refine rb_aload rfl ?_
          refine rb_getf (v := .ref 86) rfl ?_
          refine rb_iload rfl ?_
          refine rb_iald rfl (by decide) (show _ = some (0) from rfl) ?_
          refine rb_ine (fun h => absurd (by decide) h) (fun _ => ?_)
          refine rb_push ?_
          refine rb_ret rfl rfl
        case h3 => exact s1_ok
        case h4 => exact rfl
      ·
        rcases ia_cut (c := 2) hla hha with ⟨hla, hha⟩ | ⟨hla, hha⟩
        ·
          obtain rfl : a = 1 := ia_one hla hha (by decide) (by decide)
          apply p1_intro (v := (-1000000011))
          case h1 =>
            apply ex_X8_item
            refine rn_step rfl ?_
            refine rb_iload rfl ?_
            apply rb_callS1
            case hcl => exact rfl
            case hc =>
              apply ex_X8_isSlot
              refine rn_step rfl ?_
              refine rb_iload rfl ?_
              refine rb_push ?_
              refine rb_push ?_
              apply rb_callS3
              case hcl => exact rfl
              case hc =>
                apply ex_X8_within
                refine rn_step rfl ?_
                refine rb_iload rfl ?_
                refine rb_iload rfl ?_
                refine rb_clt (fun h => absurd h (by decide)) (fun _ => ?_)
                refine rb_iload rfl ?_
                refine rb_iload rfl ?_
                refine rb_cgt (fun h => absurd h (by decide)) (fun _ => ?_)
                refine rb_push ?_
                refine rb_goto ?_
                refine rn_step rfl ?_
                refine rb_ret rfl rfl
              refine rb_ret rfl rfl
            refine rb_ine (fun _ => ?_) (fun h => absurd (by decide) h)
            refine rn_step rfl ?_
            refine rb_aload rfl ?_
            refine rb_iload rfl ?_
            refine rb_push ?_
            apply rb_callV2
            case hb => exact rfl
            case hcl => exact rfl
            case hc =>
              apply ex_X8_lookFor
              refine rn_step rfl ?_
              refine rb_aload rfl ?_
              refine rb_getf (v := .ref 43) rfl ?_
              refine rb_iload rfl ?_
              refine rb_aaldR rfl (by decide) rfl ?_
              refine rb_getf (v := .int 0) rfl ?_
              refine rb_ine (fun h => absurd (by decide) h) (fun _ => ?_)
              refine rb_push ?_
              refine rb_ret rfl rfl
            refine rb_istore (lv' := [some (.ref 0), some (.int 1), some (.int (b)), some (.int (-1000000011)), none]) rfl ?_
            refine rb_iload rfl ?_
            refine rb_ieq (fun h => absurd h (by decide)) (fun _ => ?_)
            refine rb_iload rfl ?_
            refine rb_ret rfl rfl
          case h2 =>
            apply ex_X9_item
            refine rn_step rfl ?_
            refine rb_iload rfl ?_
            apply rb_callS1
            case hcl => exact rfl
            case hc =>
              apply ex_X9_isSlot
              refine rn_step rfl ?_
              refine rb_iload rfl ?_
              refine rb_push ?_
              refine rb_push ?_
              apply rb_callS3
              case hcl => exact rfl
              case hc =>
                apply ex_X9_in
                refine rn_step rfl ?_
                refine rb_iload rfl ?_
                refine rb_iload rfl ?_
                refine rb_clt (fun h => absurd h (by decide)) (fun _ => ?_)
                refine rb_iload rfl ?_
                refine rb_iload rfl ?_
                refine rb_cgt (fun h => absurd h (by decide)) (fun _ => ?_)
                refine rb_push ?_
                refine rb_goto ?_
                refine rn_step rfl ?_
                refine rb_ret rfl rfl
              refine rb_ret rfl rfl
            refine rb_ine (fun _ => ?_) (fun h => absurd (by decide) h)
            refine rn_step rfl ?_
            refine rb_aload rfl ?_
            refine rb_getf (v := .ref 86) rfl ?_
            refine rb_iload rfl ?_
            refine rb_iald rfl (by decide) (show _ = some (0) from rfl) ?_
            refine rb_ine (fun h => absurd (by decide) h) (fun _ => ?_)
            refine rb_push ?_
            refine rb_ret rfl rfl
          case h3 => exact s1_ok
          case h4 => exact rfl
        ·
          rcases ia_cut (c := 3) hla hha with ⟨hla, hha⟩ | ⟨hla, hha⟩
          ·
            obtain rfl : a = 2 := ia_one hla hha (by decide) (by decide)
            apply p1_intro (v := (-1000000011))
            case h1 =>
              apply ex_X8_item
              refine rn_step rfl ?_
              refine rb_iload rfl ?_
              apply rb_callS1
              case hcl => exact rfl
              case hc =>
                apply ex_X8_isSlot
                refine rn_step rfl ?_
                refine rb_iload rfl ?_
                refine rb_push ?_
                refine rb_push ?_
                apply rb_callS3
                case hcl => exact rfl
                case hc =>
                  apply ex_X8_within
                  refine rn_step rfl ?_
                  refine rb_iload rfl ?_
                  refine rb_iload rfl ?_
                  refine rb_clt (fun h => absurd h (by decide)) (fun _ => ?_)
                  refine rb_iload rfl ?_
                  refine rb_iload rfl ?_
                  refine rb_cgt (fun h => absurd h (by decide)) (fun _ => ?_)
                  refine rb_push ?_
                  refine rb_goto ?_
                  refine rn_step rfl ?_
                  refine rb_ret rfl rfl
                refine rb_ret rfl rfl
              refine rb_ine (fun _ => ?_) (fun h => absurd (by decide) h)
              refine rn_step rfl ?_
              refine rb_aload rfl ?_
              refine rb_iload rfl ?_
              refine rb_push ?_
              apply rb_callV2
              case hb => exact rfl
              case hcl => exact rfl
              case hc =>
                apply ex_X8_lookFor
                refine rn_step rfl ?_
                refine rb_aload rfl ?_
                refine rb_getf (v := .ref 43) rfl ?_
                refine rb_iload rfl ?_
                refine rb_aaldR rfl (by decide) rfl ?_
                refine rb_getf (v := .int 0) rfl ?_
                refine rb_ine (fun h => absurd (by decide) h) (fun _ => ?_)
                refine rb_push ?_
                refine rb_ret rfl rfl
              refine rb_istore (lv' := [some (.ref 0), some (.int 2), some (.int (b)), some (.int (-1000000011)), none]) rfl ?_
              refine rb_iload rfl ?_
              refine rb_ieq (fun h => absurd h (by decide)) (fun _ => ?_)
              refine rb_iload rfl ?_
              refine rb_ret rfl rfl
            case h2 =>
              apply ex_X9_item
              refine rn_step rfl ?_
              refine rb_iload rfl ?_
              apply rb_callS1
              case hcl => exact rfl
              case hc =>
                apply ex_X9_isSlot
                refine rn_step rfl ?_
                refine rb_iload rfl ?_
                refine rb_push ?_
                refine rb_push ?_
                apply rb_callS3
                case hcl => exact rfl
                case hc =>
                  apply ex_X9_in
                  refine rn_step rfl ?_
                  refine rb_iload rfl ?_
                  refine rb_iload rfl ?_
                  refine rb_clt (fun h => absurd h (by decide)) (fun _ => ?_)
                  refine rb_iload rfl ?_
                  refine rb_iload rfl ?_
                  refine rb_cgt (fun h => absurd h (by decide)) (fun _ => ?_)
                  refine rb_push ?_
                  refine rb_goto ?_
                  refine rn_step rfl ?_
                  refine rb_ret rfl rfl
                refine rb_ret rfl rfl
              refine rb_ine (fun _ => ?_) (fun h => absurd (by decide) h)
              refine rn_step rfl ?_
              refine rb_aload rfl ?_
              refine rb_getf (v := .ref 86) rfl ?_
              refine rb_iload rfl ?_
              refine rb_iald rfl (by decide) (show _ = some (0) from rfl) ?_
              refine rb_ine (fun h => absurd (by decide) h) (fun _ => ?_)
              refine rb_push ?_
              refine rb_ret rfl rfl
            case h3 => exact s1_ok
            case h4 => exact rfl
          ·
            rcases ia_cut (c := 4) hla hha with ⟨hla, hha⟩ | ⟨hla, hha⟩
            ·
              obtain rfl : a = 3 := ia_one hla hha (by decide) (by decide)
              apply p1_intro (v := (-1000000011))
              case h1 =>
                apply ex_X8_item
                refine rn_step rfl ?_
                refine rb_iload rfl ?_
                apply rb_callS1
                case hcl => exact rfl
                case hc =>
                  apply ex_X8_isSlot
                  refine rn_step rfl ?_
                  refine rb_iload rfl ?_
                  refine rb_push ?_
                  refine rb_push ?_
                  apply rb_callS3
                  case hcl => exact rfl
                  case hc =>
                    apply ex_X8_within
                    refine rn_step rfl ?_
                    refine rb_iload rfl ?_
                    refine rb_iload rfl ?_
                    refine rb_clt (fun h => absurd h (by decide)) (fun _ => ?_)
                    refine rb_iload rfl ?_
                    refine rb_iload rfl ?_
                    refine rb_cgt (fun h => absurd h (by decide)) (fun _ => ?_)
                    refine rb_push ?_
                    refine rb_goto ?_
                    refine rn_step rfl ?_
                    refine rb_ret rfl rfl
                  refine rb_ret rfl rfl
                refine rb_ine (fun _ => ?_) (fun h => absurd (by decide) h)
                refine rn_step rfl ?_
                refine rb_aload rfl ?_
                refine rb_iload rfl ?_
                refine rb_push ?_
                apply rb_callV2
                case hb => exact rfl
                case hcl => exact rfl
                case hc =>
                  apply ex_X8_lookFor
                  refine rn_step rfl ?_
                  refine rb_aload rfl ?_
                  refine rb_getf (v := .ref 43) rfl ?_
                  refine rb_iload rfl ?_
                  refine rb_aaldR rfl (by decide) rfl ?_
                  refine rb_getf (v := .int 0) rfl ?_
                  refine rb_ine (fun h => absurd (by decide) h) (fun _ => ?_)
                  refine rb_push ?_
                  refine rb_ret rfl rfl
                refine rb_istore (lv' := [some (.ref 0), some (.int 3), some (.int (b)), some (.int (-1000000011)), none]) rfl ?_
                refine rb_iload rfl ?_
                refine rb_ieq (fun h => absurd h (by decide)) (fun _ => ?_)
                refine rb_iload rfl ?_
                refine rb_ret rfl rfl
              case h2 =>
                apply ex_X9_item
                refine rn_step rfl ?_
                refine rb_iload rfl ?_
                apply rb_callS1
                case hcl => exact rfl
                case hc =>
                  apply ex_X9_isSlot
                  refine rn_step rfl ?_
                  refine rb_iload rfl ?_
                  refine rb_push ?_
                  refine rb_push ?_
                  apply rb_callS3
                  case hcl => exact rfl
                  case hc =>
                    apply ex_X9_in
                    refine rn_step rfl ?_
                    refine rb_iload rfl ?_
                    refine rb_iload rfl ?_
                    refine rb_clt (fun h => absurd h (by decide)) (fun _ => ?_)
                    refine rb_iload rfl ?_
                    refine rb_iload rfl ?_
                    refine rb_cgt (fun h => absurd h (by decide)) (fun _ => ?_)
                    refine rb_push ?_
                    refine rb_goto ?_
                    refine rn_step rfl ?_
                    refine rb_ret rfl rfl
                  refine rb_ret rfl rfl
                refine rb_ine (fun _ => ?_) (fun h => absurd (by decide) h)
                refine rn_step rfl ?_
                refine rb_aload rfl ?_
                refine rb_getf (v := .ref 86) rfl ?_
                refine rb_iload rfl ?_
                refine rb_iald rfl (by decide) (show _ = some (0) from rfl) ?_
                refine rb_ine (fun h => absurd (by decide) h) (fun _ => ?_)
                refine rb_push ?_
                refine rb_ret rfl rfl
              case h3 => exact s1_ok
              case h4 => exact rfl
            ·
              obtain rfl : a = 4 := ia_one hla hha (by decide) (by decide)
              apply p1_intro (v := (-1000000011))
              case h1 =>
                apply ex_X8_item
                refine rn_step rfl ?_
                refine rb_iload rfl ?_
                apply rb_callS1
                case hcl => exact rfl
                case hc =>
                  apply ex_X8_isSlot
                  refine rn_step rfl ?_
                  refine rb_iload rfl ?_
                  refine rb_push ?_
                  refine rb_push ?_
                  apply rb_callS3
                  case hcl => exact rfl
                  case hc =>
                    apply ex_X8_within
                    refine rn_step rfl ?_
                    refine rb_iload rfl ?_
                    refine rb_iload rfl ?_
                    refine rb_clt (fun h => absurd h (by decide)) (fun _ => ?_)
                    refine rb_iload rfl ?_
                    refine rb_iload rfl ?_
                    refine rb_cgt (fun h => absurd h (by decide)) (fun _ => ?_)
                    refine rb_push ?_
                    refine rb_goto ?_
                    refine rn_step rfl ?_
                    refine rb_ret rfl rfl
                  refine rb_ret rfl rfl
                refine rb_ine (fun _ => ?_) (fun h => absurd (by decide) h)
                refine rn_step rfl ?_
                refine rb_aload rfl ?_
                refine rb_iload rfl ?_
                refine rb_push ?_
                apply rb_callV2
                case hb => exact rfl
                case hcl => exact rfl
                case hc =>
                  apply ex_X8_lookFor
                  refine rn_step rfl ?_
                  refine rb_aload rfl ?_
                  refine rb_getf (v := .ref 43) rfl ?_
                  refine rb_iload rfl ?_
                  refine rb_aaldR rfl (by decide) rfl ?_
                  refine rb_getf (v := .int 0) rfl ?_
                  refine rb_ine (fun h => absurd (by decide) h) (fun _ => ?_)
                  refine rb_push ?_
                  refine rb_ret rfl rfl
                refine rb_istore (lv' := [some (.ref 0), some (.int 4), some (.int (b)), some (.int (-1000000011)), none]) rfl ?_
                refine rb_iload rfl ?_
                refine rb_ieq (fun h => absurd h (by decide)) (fun _ => ?_)
                refine rb_iload rfl ?_
                refine rb_ret rfl rfl
              case h2 =>
                apply ex_X9_item
                refine rn_step rfl ?_
                refine rb_iload rfl ?_
                apply rb_callS1
                case hcl => exact rfl
                case hc =>
                  apply ex_X9_isSlot
                  refine rn_step rfl ?_
                  refine rb_iload rfl ?_
                  refine rb_push ?_
                  refine rb_push ?_
                  apply rb_callS3
                  case hcl => exact rfl
                  case hc =>
                    apply ex_X9_in
                    refine rn_step rfl ?_
                    refine rb_iload rfl ?_
                    refine rb_iload rfl ?_
                    refine rb_clt (fun h => absurd h (by decide)) (fun _ => ?_)
                    refine rb_iload rfl ?_
                    refine rb_iload rfl ?_
                    refine rb_cgt (fun h => absurd h (by decide)) (fun _ => ?_)
                    refine rb_push ?_
                    refine rb_goto ?_
                    refine rn_step rfl ?_
                    refine rb_ret rfl rfl
                  refine rb_ret rfl rfl
                refine rb_ine (fun _ => ?_) (fun h => absurd (by decide) h)
                refine rn_step rfl ?_
                refine rb_aload rfl ?_
                refine rb_getf (v := .ref 86) rfl ?_
                refine rb_iload rfl ?_
                refine rb_iald rfl (by decide) (show _ = some (0) from rfl) ?_
                refine rb_ine (fun h => absurd (by decide) h) (fun _ => ?_)
                refine rb_push ?_
                refine rb_ret rfl rfl
              case h3 => exact s1_ok
              case h4 => exact rfl
    ·
      apply p1_intro (v := (-1000000001))
      case h1 =>
        apply ex_X8_item
        refine rn_step rfl ?_
        refine rb_iload rfl ?_
        apply rb_callS1
        case hcl => exact rfl
        case hc =>
          apply ex_X8_isSlot
          refine rn_step rfl ?_
          refine rb_iload rfl ?_
          refine rb_push ?_
          refine rb_push ?_
          apply rb_callS3
          case hcl => exact rfl
          case hc =>
            apply ex_X8_within
            refine rn_step rfl ?_
            refine rb_iload rfl ?_
            refine rb_iload rfl ?_
            refine rb_clt (fun h => absurd h (ia_nlt hla (by decide))) (fun _ => ?_)
            refine rb_iload rfl ?_
            refine rb_iload rfl ?_
            refine rb_cgt (fun _ => ?_) (fun h => absurd (ia_gt hla (by decide)) h)
            refine rn_step rfl ?_
            refine rb_push ?_
            refine rb_goto ?_
            refine rn_step rfl ?_
            refine rb_ret rfl rfl
          refine rb_ret rfl rfl
        refine rb_ine (fun h => absurd (by decide) h) (fun _ => ?_)
        refine rb_push ?_
        refine rb_ret rfl rfl
      case h2 =>
        apply ex_X9_item
        refine rn_step rfl ?_
        refine rb_iload rfl ?_
        apply rb_callS1
        case hcl => exact rfl
        case hc =>
          apply ex_X9_isSlot
          refine rn_step rfl ?_
          refine rb_iload rfl ?_
          refine rb_push ?_
          refine rb_push ?_
          apply rb_callS3
          case hcl => exact rfl
          case hc =>
            apply ex_X9_in
            refine rn_step rfl ?_
            refine rb_iload rfl ?_
            refine rb_iload rfl ?_
            refine rb_clt (fun h => absurd h (ia_nlt hla (by decide))) (fun _ => ?_)
            refine rb_iload rfl ?_
            refine rb_iload rfl ?_
            refine rb_cgt (fun _ => ?_) (fun h => absurd (ia_gt hla (by decide)) h)
            refine rn_step rfl ?_
            refine rb_push ?_
            refine rb_goto ?_
            refine rn_step rfl ?_
            refine rb_ret rfl rfl
          refine rb_ret rfl rfl
        refine rb_ine (fun h => absurd (by decide) h) (fun _ => ?_)
        refine rb_push ?_
        refine rb_ret rfl rfl
      case h3 => exact s1_ok
      case h4 => exact rfl
set_option maxRecDepth 1000000 in
set_option maxHeartbeats 40000000 in
theorem p1_rest (a b : Int32) : P1 113 216 [.int a, .int b] := by
  have hla : -2147483648 ≤ a.toInt := ia_lo a
  have hha : a.toInt ≤ 2147483647 := ia_hi a
  have hlb : -2147483648 ≤ b.toInt := ia_lo b
  have hhb : b.toInt ≤ 2147483647 := ia_hi b
  rcases ia_cut (c := 0) hla hha with ⟨hla, hha⟩ | ⟨hla, hha⟩
  ·
    apply p1_intro (v := (-1000000001))
    case h1 =>
      apply ex_X8_rest
      refine rn_step rfl ?_
      refine rb_iload rfl ?_
      apply rb_callS1
      case hcl => exact rfl
      case hc =>
        apply ex_X8_isSlot
        refine rn_step rfl ?_
        refine rb_iload rfl ?_
        refine rb_push ?_
        refine rb_push ?_
        apply rb_callS3
        case hcl => exact rfl
        case hc =>
          apply ex_X8_within
          refine rn_step rfl ?_
          refine rb_iload rfl ?_
          refine rb_iload rfl ?_
          refine rb_clt (fun _ => ?_) (fun h => absurd (ia_lt hha (by decide)) h)
          refine rn_step rfl ?_
          refine rb_push ?_
          refine rb_goto ?_
          refine rn_step rfl ?_
          refine rb_ret rfl rfl
        refine rb_ret rfl rfl
      refine rb_ine (fun h => absurd (by decide) h) (fun _ => ?_)
      refine rb_push ?_
      refine rb_ret rfl rfl
    case h2 =>
      apply ex_X9_rest
      refine rn_step rfl ?_
      refine rb_iload rfl ?_
      apply rb_callS1
      case hcl => exact rfl
      case hc =>
        apply ex_X9_isSlot
        refine rn_step rfl ?_
        refine rb_iload rfl ?_
        refine rb_push ?_
        refine rb_push ?_
        apply rb_callS3
        case hcl => exact rfl
        case hc =>
          apply ex_X9_in
          refine rn_step rfl ?_
          refine rb_iload rfl ?_
          refine rb_iload rfl ?_
          refine rb_clt (fun _ => ?_) (fun h => absurd (ia_lt hha (by decide)) h)
          refine rn_step rfl ?_
          refine rb_push ?_
          refine rb_goto ?_
          refine rn_step rfl ?_
          refine rb_ret rfl rfl
        refine rb_ret rfl rfl
      refine rb_ine (fun h => absurd (by decide) h) (fun _ => ?_)
      refine rb_push ?_
      refine rb_ret rfl rfl
    case h3 => exact s1_ok
    case h4 => exact rfl
  ·
    rcases ia_cut (c := 5) hla hha with ⟨hla, hha⟩ | ⟨hla, hha⟩
    ·
      rcases ia_cut (c := 1) hla hha with ⟨hla, hha⟩ | ⟨hla, hha⟩
      ·
        obtain rfl : a = 0 := ia_one hla hha (by decide) (by decide)
        apply p1_intro (v := (-1000000011))
        case h1 =>
          apply ex_X8_rest
          refine rn_step rfl ?_
          refine rb_iload rfl ?_
          apply rb_callS1
          case hcl => exact rfl
          case hc =>
            apply ex_X8_isSlot
            refine rn_step rfl ?_
            refine rb_iload rfl ?_
            refine rb_push ?_
            refine rb_push ?_
            apply rb_callS3
            case hcl => exact rfl
            case hc =>
              apply ex_X8_within
              refine rn_step rfl ?_
              refine rb_iload rfl ?_
              refine rb_iload rfl ?_
              refine rb_clt (fun h => absurd h (by decide)) (fun _ => ?_)
              refine rb_iload rfl ?_
              refine rb_iload rfl ?_
              refine rb_cgt (fun h => absurd h (by decide)) (fun _ => ?_)
              refine rb_push ?_
              refine rb_goto ?_
              refine rn_step rfl ?_
              refine rb_ret rfl rfl
            refine rb_ret rfl rfl
          refine rb_ine (fun _ => ?_) (fun h => absurd (by decide) h)
          refine rn_step rfl ?_
          refine rb_aload rfl ?_
          refine rb_iload rfl ?_
          refine rb_push ?_
          apply rb_callV2
          case hb => exact rfl
          case hcl => exact rfl
          case hc =>
            apply ex_X8_lookFor
            refine rn_step rfl ?_
            refine rb_aload rfl ?_
            refine rb_getf (v := .ref 43) rfl ?_
            refine rb_iload rfl ?_
            refine rb_aaldR rfl (by decide) rfl ?_
            refine rb_getf (v := .int 0) rfl ?_
            refine rb_ine (fun h => absurd (by decide) h) (fun _ => ?_)
            refine rb_push ?_
            refine rb_ret rfl rfl
          refine rb_istore (lv' := [some (.ref 0), some (.int 0), some (.int (b)), some (.int (-1000000011))]) rfl ?_
          refine rb_iload rfl ?_
          refine rb_ieq (fun h => absurd h (by decide)) (fun _ => ?_)
          refine rb_iload rfl ?_
          refine rb_ret rfl rfl
        case h2 =>
          apply ex_X9_rest
          refine rn_step rfl ?_
          refine rb_iload rfl ?_
          apply rb_callS1
          case hcl => exact rfl
          case hc =>
            apply ex_X9_isSlot
            refine rn_step rfl ?_
            refine rb_iload rfl ?_
            refine rb_push ?_
            refine rb_push ?_
            apply rb_callS3
            case hcl => exact rfl
            case hc =>
              apply ex_X9_in
              refine rn_step rfl ?_
              refine rb_iload rfl ?_
              refine rb_iload rfl ?_
              refine rb_clt (fun h => absurd h (by decide)) (fun _ => ?_)
              refine rb_iload rfl ?_
              refine rb_iload rfl ?_
              refine rb_cgt (fun h => absurd h (by decide)) (fun _ => ?_)
              refine rb_push ?_
              refine rb_goto ?_
              refine rn_step rfl ?_
              refine rb_ret rfl rfl
            refine rb_ret rfl rfl
          refine rb_ine (fun _ => ?_) (fun h => absurd (by decide) h)
          refine rn_step rfl ?_
          refine rb_aload rfl ?_
          refine rb_getf (v := .ref 86) rfl ?_
          refine rb_iload rfl ?_
          refine rb_iald rfl (by decide) (show _ = some (0) from rfl) ?_
          refine rb_ine (fun h => absurd (by decide) h) (fun _ => ?_)
          refine rb_push ?_
          refine rb_ret rfl rfl
        case h3 => exact s1_ok
        case h4 => exact rfl
      ·
        rcases ia_cut (c := 2) hla hha with ⟨hla, hha⟩ | ⟨hla, hha⟩
        ·
          obtain rfl : a = 1 := ia_one hla hha (by decide) (by decide)
          apply p1_intro (v := (-1000000011))
          case h1 =>
            apply ex_X8_rest
            refine rn_step rfl ?_
            refine rb_iload rfl ?_
            apply rb_callS1
            case hcl => exact rfl
            case hc =>
              apply ex_X8_isSlot
              refine rn_step rfl ?_
              refine rb_iload rfl ?_
              refine rb_push ?_
              refine rb_push ?_
              apply rb_callS3
              case hcl => exact rfl
              case hc =>
                apply ex_X8_within
                refine rn_step rfl ?_
                refine rb_iload rfl ?_
                refine rb_iload rfl ?_
                refine rb_clt (fun h => absurd h (by decide)) (fun _ => ?_)
                refine rb_iload rfl ?_
                refine rb_iload rfl ?_
                refine rb_cgt (fun h => absurd h (by decide)) (fun _ => ?_)
                refine rb_push ?_
                refine rb_goto ?_
                refine rn_step rfl ?_
                refine rb_ret rfl rfl
              refine rb_ret rfl rfl
            refine rb_ine (fun _ => ?_) (fun h => absurd (by decide) h)
            refine rn_step rfl ?_
            refine rb_aload rfl ?_
            refine rb_iload rfl ?_
            refine rb_push ?_
            apply rb_callV2
            case hb => exact rfl
            case hcl => exact rfl
            case hc =>
              apply ex_X8_lookFor
              refine rn_step rfl ?_
              refine rb_aload rfl ?_
              refine rb_getf (v := .ref 43) rfl ?_
              refine rb_iload rfl ?_
              refine rb_aaldR rfl (by decide) rfl ?_
              refine rb_getf (v := .int 0) rfl ?_
              refine rb_ine (fun h => absurd (by decide) h) (fun _ => ?_)
              refine rb_push ?_
              refine rb_ret rfl rfl
            refine rb_istore (lv' := [some (.ref 0), some (.int 1), some (.int (b)), some (.int (-1000000011))]) rfl ?_
            refine rb_iload rfl ?_
            refine rb_ieq (fun h => absurd h (by decide)) (fun _ => ?_)
            refine rb_iload rfl ?_
            refine rb_ret rfl rfl
          case h2 =>
            apply ex_X9_rest
            refine rn_step rfl ?_
            refine rb_iload rfl ?_
            apply rb_callS1
            case hcl => exact rfl
            case hc =>
              apply ex_X9_isSlot
              refine rn_step rfl ?_
              refine rb_iload rfl ?_
              refine rb_push ?_
              refine rb_push ?_
              apply rb_callS3
              case hcl => exact rfl
              case hc =>
                apply ex_X9_in
                refine rn_step rfl ?_
                refine rb_iload rfl ?_
                refine rb_iload rfl ?_
                refine rb_clt (fun h => absurd h (by decide)) (fun _ => ?_)
                refine rb_iload rfl ?_
                refine rb_iload rfl ?_
                refine rb_cgt (fun h => absurd h (by decide)) (fun _ => ?_)
                refine rb_push ?_
                refine rb_goto ?_
                refine rn_step rfl ?_
                refine rb_ret rfl rfl
              refine rb_ret rfl rfl
            refine rb_ine (fun _ => ?_) (fun h => absurd (by decide) h)
            refine rn_step rfl ?_
            refine rb_aload rfl ?_
            refine rb_getf (v := .ref 86) rfl ?_
            refine rb_iload rfl ?_
            refine rb_iald rfl (by decide) (show _ = some (0) from rfl) ?_
            refine rb_ine (fun h => absurd (by decide) h) (fun _ => ?_)
            refine rb_push ?_
            refine rb_ret rfl rfl
          case h3 => exact s1_ok
          case h4 => exact rfl
        ·
          rcases ia_cut (c := 3) hla hha with ⟨hla, hha⟩ | ⟨hla, hha⟩
          ·
            obtain rfl : a = 2 := ia_one hla hha (by decide) (by decide)
            apply p1_intro (v := (-1000000011))
            case h1 =>
              apply ex_X8_rest
              refine rn_step rfl ?_
              refine rb_iload rfl ?_
              apply rb_callS1
              case hcl => exact rfl
              case hc =>
                apply ex_X8_isSlot
                refine rn_step rfl ?_
                refine rb_iload rfl ?_
                refine rb_push ?_
                refine rb_push ?_
                apply rb_callS3
                case hcl => exact rfl
                case hc =>
                  apply ex_X8_within
                  refine rn_step rfl ?_
                  refine rb_iload rfl ?_
                  refine rb_iload rfl ?_
                  refine rb_clt (fun h => absurd h (by decide)) (fun _ => ?_)
                  refine rb_iload rfl ?_
                  refine rb_iload rfl ?_
                  refine rb_cgt (fun h => absurd h (by decide)) (fun _ => ?_)
                  refine rb_push ?_
                  refine rb_goto ?_
                  refine rn_step rfl ?_
                  refine rb_ret rfl rfl
                refine rb_ret rfl rfl
              refine rb_ine (fun _ => ?_) (fun h => absurd (by decide) h)
              refine rn_step rfl ?_
              refine rb_aload rfl ?_
              refine rb_iload rfl ?_
              refine rb_push ?_
              apply rb_callV2
              case hb => exact rfl
              case hcl => exact rfl
              case hc =>
                apply ex_X8_lookFor
                refine rn_step rfl ?_
                refine rb_aload rfl ?_
                refine rb_getf (v := .ref 43) rfl ?_
                refine rb_iload rfl ?_
                refine rb_aaldR rfl (by decide) rfl ?_
                refine rb_getf (v := .int 0) rfl ?_
                refine rb_ine (fun h => absurd (by decide) h) (fun _ => ?_)
                refine rb_push ?_
                refine rb_ret rfl rfl
              refine rb_istore (lv' := [some (.ref 0), some (.int 2), some (.int (b)), some (.int (-1000000011))]) rfl ?_
              refine rb_iload rfl ?_
              refine rb_ieq (fun h => absurd h (by decide)) (fun _ => ?_)
              refine rb_iload rfl ?_
              refine rb_ret rfl rfl
            case h2 =>
              apply ex_X9_rest
              refine rn_step rfl ?_
              refine rb_iload rfl ?_
              apply rb_callS1
              case hcl => exact rfl
              case hc =>
                apply ex_X9_isSlot
                refine rn_step rfl ?_
                refine rb_iload rfl ?_
                refine rb_push ?_
                refine rb_push ?_
                apply rb_callS3
                case hcl => exact rfl
                case hc =>
                  apply ex_X9_in
                  refine rn_step rfl ?_
                  refine rb_iload rfl ?_
                  refine rb_iload rfl ?_
                  refine rb_clt (fun h => absurd h (by decide)) (fun _ => ?_)
                  refine rb_iload rfl ?_
                  refine rb_iload rfl ?_
                  refine rb_cgt (fun h => absurd h (by decide)) (fun _ => ?_)
                  refine rb_push ?_
                  refine rb_goto ?_
                  refine rn_step rfl ?_
                  refine rb_ret rfl rfl
                refine rb_ret rfl rfl
              refine rb_ine (fun _ => ?_) (fun h => absurd (by decide) h)
              refine rn_step rfl ?_
              refine rb_aload rfl ?_
              refine rb_getf (v := .ref 86) rfl ?_
              refine rb_iload rfl ?_
              refine rb_iald rfl (by decide) (show _ = some (0) from rfl) ?_
              refine rb_ine (fun h => absurd (by decide) h) (fun _ => ?_)
              refine rb_push ?_
              refine rb_ret rfl rfl
            case h3 => exact s1_ok
            case h4 => exact rfl
          ·
            rcases ia_cut (c := 4) hla hha with ⟨hla, hha⟩ | ⟨hla, hha⟩
            ·
              obtain rfl : a = 3 := ia_one hla hha (by decide) (by decide)
              apply p1_intro (v := (-1000000011))
              case h1 =>
                apply ex_X8_rest
                refine rn_step rfl ?_
                refine rb_iload rfl ?_
                apply rb_callS1
                case hcl => exact rfl
                case hc =>
                  apply ex_X8_isSlot
                  refine rn_step rfl ?_
                  refine rb_iload rfl ?_
                  refine rb_push ?_
                  refine rb_push ?_
                  apply rb_callS3
                  case hcl => exact rfl
                  case hc =>
                    apply ex_X8_within
                    refine rn_step rfl ?_
                    refine rb_iload rfl ?_
                    refine rb_iload rfl ?_
                    refine rb_clt (fun h => absurd h (by decide)) (fun _ => ?_)
                    refine rb_iload rfl ?_
                    refine rb_iload rfl ?_
                    refine rb_cgt (fun h => absurd h (by decide)) (fun _ => ?_)
                    refine rb_push ?_
                    refine rb_goto ?_
                    refine rn_step rfl ?_
                    refine rb_ret rfl rfl
                  refine rb_ret rfl rfl
                refine rb_ine (fun _ => ?_) (fun h => absurd (by decide) h)
                refine rn_step rfl ?_
                refine rb_aload rfl ?_
                refine rb_iload rfl ?_
                refine rb_push ?_
                apply rb_callV2
                case hb => exact rfl
                case hcl => exact rfl
                case hc =>
                  apply ex_X8_lookFor
                  refine rn_step rfl ?_
                  refine rb_aload rfl ?_
                  refine rb_getf (v := .ref 43) rfl ?_
                  refine rb_iload rfl ?_
                  refine rb_aaldR rfl (by decide) rfl ?_
                  refine rb_getf (v := .int 0) rfl ?_
                  refine rb_ine (fun h => absurd (by decide) h) (fun _ => ?_)
                  refine rb_push ?_
                  refine rb_ret rfl rfl
                refine rb_istore (lv' := [some (.ref 0), some (.int 3), some (.int (b)), some (.int (-1000000011))]) rfl ?_
                refine rb_iload rfl ?_
                refine rb_ieq (fun h => absurd h (by decide)) (fun _ => ?_)
                refine rb_iload rfl ?_
                refine rb_ret rfl rfl
              case h2 =>
                apply ex_X9_rest
                refine rn_step rfl ?_
                refine rb_iload rfl ?_
                apply rb_callS1
                case hcl => exact rfl
                case hc =>
                  apply ex_X9_isSlot
                  refine rn_step rfl ?_
                  refine rb_iload rfl ?_
                  refine rb_push ?_
                  refine rb_push ?_
                  apply rb_callS3
                  case hcl => exact rfl
                  case hc =>
                    apply ex_X9_in
                    refine rn_step rfl ?_
                    refine rb_iload rfl ?_
                    refine rb_iload rfl ?_
                    refine rb_clt (fun h => absurd h (by decide)) (fun _ => ?_)
                    refine rb_iload rfl ?_
                    refine rb_iload rfl ?_
                    refine rb_cgt (fun h => absurd h (by decide)) (fun _ => ?_)
                    refine rb_push ?_
                    refine rb_goto ?_
                    refine rn_step rfl ?_
                    refine rb_ret rfl rfl
                  refine rb_ret rfl rfl
                refine rb_ine (fun _ => ?_) (fun h => absurd (by decide) h)
                refine rn_step rfl ?_
                refine rb_aload rfl ?_
                refine rb_getf (v := .ref 86) rfl ?_
                refine rb_iload rfl ?_
                refine rb_iald rfl (by decide) (show _ = some (0) from rfl) ?_
                refine rb_ine (fun h => absurd (by decide) h) (fun _ => ?_)
                refine rb_push ?_
                refine rb_ret rfl rfl
              case h3 => exact s1_ok
              case h4 => exact rfl
            ·
              obtain rfl : a = 4 := ia_one hla hha (by decide) (by decide)
              apply p1_intro (v := (-1000000011))
              case h1 =>
                apply ex_X8_rest
                refine rn_step rfl ?_
                refine rb_iload rfl ?_
                apply rb_callS1
                case hcl => exact rfl
                case hc =>
                  apply ex_X8_isSlot
                  refine rn_step rfl ?_
                  refine rb_iload rfl ?_
                  refine rb_push ?_
                  refine rb_push ?_
                  apply rb_callS3
                  case hcl => exact rfl
                  case hc =>
                    apply ex_X8_within
                    refine rn_step rfl ?_
                    refine rb_iload rfl ?_
                    refine rb_iload rfl ?_
                    refine rb_clt (fun h => absurd h (by decide)) (fun _ => ?_)
                    refine rb_iload rfl ?_
                    refine rb_iload rfl ?_
                    refine rb_cgt (fun h => absurd h (by decide)) (fun _ => ?_)
                    refine rb_push ?_
                    refine rb_goto ?_
                    refine rn_step rfl ?_
                    refine rb_ret rfl rfl
                  refine rb_ret rfl rfl
                refine rb_ine (fun _ => ?_) (fun h => absurd (by decide) h)
                refine rn_step rfl ?_
                refine rb_aload rfl ?_
                refine rb_iload rfl ?_
                refine rb_push ?_
                apply rb_callV2
                case hb => exact rfl
                case hcl => exact rfl
                case hc =>
                  apply ex_X8_lookFor
                  refine rn_step rfl ?_
                  refine rb_aload rfl ?_
                  refine rb_getf (v := .ref 43) rfl ?_
                  refine rb_iload rfl ?_
                  refine rb_aaldR rfl (by decide) rfl ?_
                  refine rb_getf (v := .int 0) rfl ?_
                  refine rb_ine (fun h => absurd (by decide) h) (fun _ => ?_)
                  refine rb_push ?_
                  refine rb_ret rfl rfl
                refine rb_istore (lv' := [some (.ref 0), some (.int 4), some (.int (b)), some (.int (-1000000011))]) rfl ?_
                refine rb_iload rfl ?_
                refine rb_ieq (fun h => absurd h (by decide)) (fun _ => ?_)
                refine rb_iload rfl ?_
                refine rb_ret rfl rfl
              case h2 =>
                apply ex_X9_rest
                refine rn_step rfl ?_
                refine rb_iload rfl ?_
                apply rb_callS1
                case hcl => exact rfl
                case hc =>
                  apply ex_X9_isSlot
                  refine rn_step rfl ?_
                  refine rb_iload rfl ?_
                  refine rb_push ?_
                  refine rb_push ?_
                  apply rb_callS3
                  case hcl => exact rfl
                  case hc =>
                    apply ex_X9_in
                    refine rn_step rfl ?_
                    refine rb_iload rfl ?_
                    refine rb_iload rfl ?_
                    refine rb_clt (fun h => absurd h (by decide)) (fun _ => ?_)
                    refine rb_iload rfl ?_
                    refine rb_iload rfl ?_
                    refine rb_cgt (fun h => absurd h (by decide)) (fun _ => ?_)
                    refine rb_push ?_
                    refine rb_goto ?_
                    refine rn_step rfl ?_
                    refine rb_ret rfl rfl
                  refine rb_ret rfl rfl
                refine rb_ine (fun _ => ?_) (fun h => absurd (by decide) h)
                refine rn_step rfl ?_
                refine rb_aload rfl ?_
                refine rb_getf (v := .ref 86) rfl ?_
                refine rb_iload rfl ?_
                refine rb_iald rfl (by decide) (show _ = some (0) from rfl) ?_
                refine rb_ine (fun h => absurd (by decide) h) (fun _ => ?_)
                refine rb_push ?_
                refine rb_ret rfl rfl
              case h3 => exact s1_ok
              case h4 => exact rfl
    ·
      apply p1_intro (v := (-1000000001))
      case h1 =>
        apply ex_X8_rest
        refine rn_step rfl ?_
        refine rb_iload rfl ?_
        apply rb_callS1
        case hcl => exact rfl
        case hc =>
          apply ex_X8_isSlot
          refine rn_step rfl ?_
          refine rb_iload rfl ?_
          refine rb_push ?_
          refine rb_push ?_
          apply rb_callS3
          case hcl => exact rfl
          case hc =>
            apply ex_X8_within
            refine rn_step rfl ?_
            refine rb_iload rfl ?_
            refine rb_iload rfl ?_
            refine rb_clt (fun h => absurd h (ia_nlt hla (by decide))) (fun _ => ?_)
            refine rb_iload rfl ?_
            refine rb_iload rfl ?_
            refine rb_cgt (fun _ => ?_) (fun h => absurd (ia_gt hla (by decide)) h)
            refine rn_step rfl ?_
            refine rb_push ?_
            refine rb_goto ?_
            refine rn_step rfl ?_
            refine rb_ret rfl rfl
          refine rb_ret rfl rfl
        refine rb_ine (fun h => absurd (by decide) h) (fun _ => ?_)
        refine rb_push ?_
        refine rb_ret rfl rfl
      case h2 =>
        apply ex_X9_rest
        refine rn_step rfl ?_
        refine rb_iload rfl ?_
        apply rb_callS1
        case hcl => exact rfl
        case hc =>
          apply ex_X9_isSlot
          refine rn_step rfl ?_
          refine rb_iload rfl ?_
          refine rb_push ?_
          refine rb_push ?_
          apply rb_callS3
          case hcl => exact rfl
          case hc =>
            apply ex_X9_in
            refine rn_step rfl ?_
            refine rb_iload rfl ?_
            refine rb_iload rfl ?_
            refine rb_clt (fun h => absurd h (ia_nlt hla (by decide))) (fun _ => ?_)
            refine rb_iload rfl ?_
            refine rb_iload rfl ?_
            refine rb_cgt (fun _ => ?_) (fun h => absurd (ia_gt hla (by decide)) h)
            refine rn_step rfl ?_
            refine rb_push ?_
            refine rb_goto ?_
            refine rn_step rfl ?_
            refine rb_ret rfl rfl
          refine rb_ret rfl rfl
        refine rb_ine (fun h => absurd (by decide) h) (fun _ => ?_)
        refine rb_push ?_
        refine rb_ret rfl rfl
      case h3 => exact s1_ok
      case h4 => exact rfl
