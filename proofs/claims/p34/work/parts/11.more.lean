section ABM
variable {G : ab_G} {Z : State → Prop} {d : Nat} {Y : ab_Y} {pc : Nat} {k : ab_K}
theorem ab_cat (G : ab_G) (st : List Value) : ((st.map (ab_cv G)).map fun v => v.category) = st.map fun v => v.category := by
  rw [List.map_map]
  exact List.map_congr_left (fun v _ => ab_cv_cat G v)
theorem ab_cl_le {G : ab_G} {st : List Value} (h : ab_cl st = true) : ((st.map (ab_cv G)).map fun v => v.category).sum ≤ 8 := by
  rw [ab_cat]
  exact of_decide_eq_true h
theorem sn_oinit {idx : Nat} (h1 : 1 ≤ d) (hd : decode Y.1 pc = .ok (.invokespecial idx, 3)) (hl : Cond.methodLink Y.2.1 idx Lib.objectInit ∈ ab_GW) (hi : Cond.instanceMethod Lib.objectInit ∈ ab_GW) (hc : Cond.code Lib.objectInit ⟨#[0xb1]⟩ 1 none ∈ ab_GW) (h : ab_Sd G Z d Y (pc + 3) k) : ab_Sd G Z d Y pc (o_oinit k) := by
  refine h.step fun lv st w r hr => ?_
  unfold o_oinit at hr
  split at hr
  · rename_i a st'
    split at hr
    · rename_i hcl
      refine ⟨lv, st', w, hr, ab_le.rf, fun p l e R s m args below meth c Q n0 t0 N T hX hR hn ht hN hT kk ls H locs hlv ha hS => ?_⟩
      have hR1 := hR.1
      have hR2 := hR.2.1
      have hc8 := ab_cl_le (G := G) hcl
      refine W.objInit hX.1 hX.2.1 hX.2.2.2.1 (hX.2.2.2.2.1 _ hl) (hX.2.2.2.2.1 _ hi) (hX.2.2.2.2.1 _ hc) rfl (by rw [hX.2.2.1]; exact hlv.1) rfl hd (by omega) ?_ (kk ls H locs hlv ha hS)
      show 2 * 0 + _ + 12 ≤ R.locals
      omega
    · cases hr
  · cases hr
theorem sn_mmax {idx : Nat} {f : Int32 → Int32 → Int32} (h1 : 1 ≤ d) (hf : f = fun x y => if x < y then y else x) (hd : decode Y.1 pc = .ok (.invokestatic idx, 3)) (hl : Cond.methodLink Y.2.1 idx Lib.Math.max.name ∈ ab_GW) (hi : Cond.static Lib.Math.max.name ∈ ab_GW) (hii : Cond.initialized "java/lang/Math" ∈ ab_GW) (hc : Cond.code Lib.Math.max.name Lib.Math.max.code 2 (some .int) ∈ ab_GW) (h : ab_Sd G Z d Y (pc + 3) k) : ab_Sd G Z d Y pc (o_m2 f k) := by
  subst hf
  refine h.step fun lv st w r hr => ?_
  unfold o_m2 at hr
  split at hr
  · rename_i y x st'
    split at hr
    · rename_i hcl
      refine ⟨lv, _, w, hr, ab_le.rf, fun p l e R s m args below meth c Q n0 t0 N T hX hR hn ht hN hT kk ls H locs hlv ha hS => ?_⟩
      obtain ⟨hR1, hR2, hR3, hR4⟩ := hR
      have hc8 := ab_cl_le (G := G) hcl
      exact va_mmax hX.1 hX.2.1 (by rw [hX.2.2.1]; exact hlv.1.symm) hX.2.2.2.1 (hX.2.2.2.2.1 _ hl) (hX.2.2.2.2.1 _ hi) (hX.2.2.2.2.1 _ hii) (hX.2.2.2.2.1 _ hc) (by omega) (by omega) (by omega) (by omega) hd (kk ls H locs hlv ha hS)
    · cases hr
  · cases hr
theorem sn_mmin {idx : Nat} {f : Int32 → Int32 → Int32} (h1 : 1 ≤ d) (hf : f = fun x y => if y < x then y else x) (hd : decode Y.1 pc = .ok (.invokestatic idx, 3)) (hl : Cond.methodLink Y.2.1 idx Lib.Math.min.name ∈ ab_GW) (hi : Cond.static Lib.Math.min.name ∈ ab_GW) (hii : Cond.initialized "java/lang/Math" ∈ ab_GW) (hc : Cond.code Lib.Math.min.name Lib.Math.min.code 2 (some .int) ∈ ab_GW) (h : ab_Sd G Z d Y (pc + 3) k) : ab_Sd G Z d Y pc (o_m2 f k) := by
  subst hf
  refine h.step fun lv st w r hr => ?_
  unfold o_m2 at hr
  split at hr
  · rename_i y x st'
    split at hr
    · rename_i hcl
      refine ⟨lv, _, w, hr, ab_le.rf, fun p l e R s m args below meth c Q n0 t0 N T hX hR hn ht hN hT kk ls H locs hlv ha hS => ?_⟩
      obtain ⟨hR1, hR2, hR3, hR4⟩ := hR
      have hc8 := ab_cl_le (G := G) hcl
      exact va_mmin hX.1 hX.2.1 (by rw [hX.2.2.1]; exact hlv.1.symm) hX.2.2.2.1 (hX.2.2.2.2.1 _ hl) (hX.2.2.2.2.1 _ hi) (hX.2.2.2.2.1 _ hii) (hX.2.2.2.2.1 _ hc) (by omega) (by omega) (by omega) (by omega) hd (kk ls H locs hlv ha hS)
    · cases hr
  · cases hr
theorem sn_mabs {idx : Nat} {f : Int32 → Int32} (h1 : 1 ≤ d) (hf : f = fun x => if 0 ≤ x then x else 0 - x) (hd : decode Y.1 pc = .ok (.invokestatic idx, 3)) (hl : Cond.methodLink Y.2.1 idx Lib.Math.abs.name ∈ ab_GW) (hi : Cond.static Lib.Math.abs.name ∈ ab_GW) (hii : Cond.initialized "java/lang/Math" ∈ ab_GW) (hc : Cond.code Lib.Math.abs.name Lib.Math.abs.code 1 (some .int) ∈ ab_GW) (h : ab_Sd G Z d Y (pc + 3) k) : ab_Sd G Z d Y pc (o_m1 f k) := by
  subst hf
  refine h.step fun lv st w r hr => ?_
  unfold o_m1 at hr
  split at hr
  · rename_i x st'
    split at hr
    · rename_i hcl
      refine ⟨lv, _, w, hr, ab_le.rf, fun p l e R s m args below meth c Q n0 t0 N T hX hR hn ht hN hT kk ls H locs hlv ha hS => ?_⟩
      obtain ⟨hR1, hR2, hR3, hR4⟩ := hR
      have hc8 := ab_cl_le (G := G) hcl
      exact va_mabs hX.1 hX.2.1 (by rw [hX.2.2.1]; exact hlv.1.symm) hX.2.2.2.1 (hX.2.2.2.2.1 _ hl) (hX.2.2.2.2.1 _ hi) (hX.2.2.2.2.1 _ hii) (hX.2.2.2.2.1 _ hc) (by omega) (by omega) (by omega) (by omega) hd (kk ls H locs hlv ha hS)
    · cases hr
  · cases hr
theorem ab_cp_len {xs ys : List Int32} {sp dp n : Nat} (h1 : sp + n ≤ xs.length) (h2 : dp + n ≤ ys.length) : (ab_cp xs ys sp dp n).length = ys.length := by
  unfold ab_cp
  simp
  omega
theorem ab_cp_get {xs ys : List Int32} {sp dp n : Nat} (h1 : sp + n ≤ xs.length) (h2 : dp + n ≤ ys.length) (j : Nat) : (ab_cp xs ys sp dp n)[j]? = if dp ≤ j ∧ j < dp + n then xs[sp + (j - dp)]? else ys[j]? := by
  unfold ab_cp
  have e1 : (ys.take dp).length = dp := by simp; omega
  have e2 : ((xs.drop sp).take n).length = n := by simp; omega
  rcases Nat.lt_or_ge j dp with h | h
  · rw [List.getElem?_append_left (by rw [e1]; exact h), List.getElem?_take, if_pos h, if_neg (by omega)]
  · rw [List.getElem?_append_right (by rw [e1]; exact h), e1]
    rcases Nat.lt_or_ge j (dp + n) with h3 | h3
    · rw [List.getElem?_append_left (by rw [e2]; omega), List.getElem?_take, if_pos (by omega), List.getElem?_drop, if_pos ⟨h, h3⟩]
    · rw [List.getElem?_append_right (by rw [e2]; omega), e2, List.getElem?_drop, if_neg (by omega)]
      congr 1
      omega
theorem ab_cpy {xs ys : List Int32} {sp dp n : Nat} (h1 : sp + n ≤ xs.length) (h2 : dp + n ≤ ys.length) : va_cpy (fun j => xs.getD j 0) (fun j => ys.getD j 0) sp dp n = fun j => (ab_cp xs ys sp dp n).getD j 0 := by
  funext j
  unfold va_cpy
  dsimp only
  rw [List.getD_eq_getElem?_getD, List.getD_eq_getElem?_getD, List.getD_eq_getElem?_getD, ab_cp_get h1 h2]
  split <;> rfl
theorem sn_acopy {idx : Nat} (h1 : 1 ≤ d) (hd : decode Y.1 pc = .ok (.invokestatic idx, 3)) (hl : Cond.methodLink Y.2.1 idx arraycopyName ∈ ab_GW) (hna : Cond.native arraycopyName ∈ ab_GW) (hst : Cond.static arraycopyName ∈ ab_GW) (hii : Cond.initialized "java/lang/System" ∈ ab_GW) (h : ab_Sd G Z d Y (pc + 3) k) : ab_Sd G Z d Y pc (o_acopy k) := by
  refine h.step fun lv st w r hr => ?_
  unfold o_acopy at hr
  split at hr
  · rename_i n dp b sp a st'
    split at hr
    · rename_i xs ys hx hy
      split at hr
      · cases hr
      · rename_i hneg
        split at hr
        · rename_i hin
          obtain ⟨q1, q2, hcl⟩ := hin
          have ha1 := ab_ia_some hx
          have hb1 := ab_ia_some hy
          have hsz : ab_sz (.inr (.inl (0, ab_cp xs ys sp.toNatClampNeg dp.toNatClampNeg n.toNatClampNeg))) = ab_sz (.inr (.inl (0, ys))) := ab_cp_len q1 q2
          refine ⟨lv, st', _, hr, ab_le.set hb1 hsz, fun p l e R s m args below meth c Q n0 t0 N T hX hR hn ht hN hT kk ls H locs hlv ha hS => ?_⟩
          obtain ⟨hR1, hR2, hR3, hR4⟩ := hR
          have hc8 := ab_cl_le (G := G) hcl
          show W p l e R s m args below meth c H locs _ _ Q (F0 m pc ls (.int n :: .int dp :: .ref (ab_ad G b) :: .int sp :: .ref (ab_ad G a) :: st'.map (ab_cv G)))
          rw [ab_ad_in ha ha1, ab_ad_in ha hb1]
          refine va_copyi (ty := .int) (f := fun j => xs.getD j 0) (g := fun j => ys.getD j 0) hX.1 hX.2.1 (by rw [hX.2.2.1]; exact hlv.1.symm) hX.2.2.2.1 (hX.2.2.2.2.1 _ hl) (hX.2.2.2.2.1 _ hna) (hX.2.2.2.2.1 _ hst) (hX.2.2.2.2.1 _ hii) hX.2.2.2.2.2.1 ha.1 (ab_D G w) hS a b 0 0 (ab_ws_at ha1) (ab_ws_at hb1) rfl rfl rfl (fun z => hneg (Or.inl z)) (fun z => hneg (Or.inr (Or.inl z))) (fun z => hneg (Or.inr (Or.inr z))) q1 q2 (fun _ _ => rfl) (by omega) ?_ hd (fun H1 locs1 hP1 hD1 hS1 => ?_)
          · have : nativeFrameWords "java/lang/System" "arraycopy" 5 ≤ 40 := by decide +kernel
            omega
          · rw [ab_cpy q1 q2] at hP1
            exact ab_setJ hX hn ha hb1 hsz hlv kk (by show va_P G.1.1 vwCl ((ab_ws G w).set b (G.2.1 + b, .inl (G.1.2 0, (ab_cp xs ys sp.toNatClampNeg dp.toNatClampNeg n.toNatClampNeg).length, .inl (fun j => (ab_cp xs ys sp.toNatClampNeg dp.toNatClampNeg n.toNatClampNeg).getD j 0)))) H1; rw [ab_cp_len q1 q2]; exact hP1) hS1
        · cases hr
    · cases hr
  · cases hr
/-! switches: a table of blocks -/
def ab_tsw (lo : Int) (bs : List Nat) (df : Nat) (x : Int32) : Nat := if x.toInt < lo then df else bs.getD (x.toInt - lo).toNat df
def ab_lsw (ks : List (Int × Nat)) (df : Nat) (x : Int) : Nat := match ks with
  | [] => df
  | (a, b) :: r => if x = a then b else ab_lsw r df x
theorem sn_tsw {df0 lo hi : Int} {offs : Array Int} {len df : Nat} {bs : List Nat} (hd : decode Y.1 pc = .ok (.tableswitch df0 lo hi offs, len)) (hlen : hi = lo + bs.length - 1)
    (ht : offs.toList.map (fun o => some ((pc : Int) + o)) = bs.map (fun b => (Y.2.2.2.2.2[b]?).map (fun q : Nat => (q : Int)))) (hdf : some ((pc : Int) + df0) = (Y.2.2.2.2.2[df]?).map (fun q : Nat => (q : Int))) : ab_Sd G Z d Y pc (o_sw (ab_tsw lo bs df)) := by
  refine ab_Sd.jmp fun lv st w r hr => ?_
  unfold o_sw at hr
  split at hr
  · rename_i x st'
    have hdf2 : ∃ tg, Y.2.2.2.2.2[df]? = some tg ∧ (pc : Int) + df0 = tg := by
      cases hq : Y.2.2.2.2.2[df]? with
      | none => rw [hq] at hdf; cases hdf
      | some tg => rw [hq] at hdf; exact ⟨tg, rfl, Option.some.inj hdf⟩
    obtain ⟨tgd, hd1, hd2⟩ := hdf2
    have hl2 : offs.toList.length = bs.length := by have := congrArg List.length ht; simpa using this
    by_cases h1 : x.toInt < lo
    · refine ⟨df, lv, st', tgd, ?_, hd1, fun p l e R s m args below meth c Q n0 t0 hX kk ls H locs hl ha hS => lv_tableOut hX.1 hX.2.1 hd (Or.inl h1) hd2 (kk ls H locs hl ha hS)⟩
      rw [← Option.some.inj hr]
      unfold ab_tsw
      rw [if_pos h1]
    · by_cases h2 : hi < x.toInt
      · refine ⟨df, lv, st', tgd, ?_, hd1, fun p l e R s m args below meth c Q n0 t0 hX kk ls H locs hl ha hS => lv_tableOut hX.1 hX.2.1 hd (Or.inr h2) hd2 (kk ls H locs hl ha hS)⟩
        rw [← Option.some.inj hr]
        unfold ab_tsw
        rw [if_neg h1, List.getD_eq_getElem?_getD, List.getElem?_eq_none (by omega)]
        rfl
      · have hj : (x.toInt - lo).toNat < bs.length := by omega
        have hb1 : bs[(x.toInt - lo).toNat]? = some bs[(x.toInt - lo).toNat] := List.getElem?_eq_getElem hj
        have ho1 : offs.toList[(x.toInt - lo).toNat]? = some (offs.toList[(x.toInt - lo).toNat]'(by rw [hl2]; exact hj)) := List.getElem?_eq_getElem (by rw [hl2]; exact hj)
        have e1 := congrArg (fun l => l[(x.toInt - lo).toNat]?) ht
        simp only [List.getElem?_map, hb1, ho1, Option.map_some] at e1
        cases hq : Y.2.2.2.2.2[bs[(x.toInt - lo).toNat]]? with
        | none => rw [hq] at e1; cases e1
        | some tg =>
          rw [hq] at e1
          have e2 := Option.some.inj (Option.some.inj e1)
          refine ⟨_, lv, st', tg, ?_, hq, fun p l e R s m args below meth c Q n0 t0 hX kk ls H locs hl ha hS => lv_tableIn hX.1 hX.2.1 hd h1 h2 (by rw [← Array.getElem?_toList]; exact ho1) e2 (kk ls H locs hl ha hS)⟩
          rw [← Option.some.inj hr]
          unfold ab_tsw
          rw [if_neg h1, List.getD_eq_getElem?_getD, hb1]
          rfl
  · cases hr
theorem ab_lsw_off {g : Nat → Int} (ks : List (Int × Nat)) (df : Nat) (x : Int) : Op.lookupswitch.offset (ks.map (fun q => (q.1, g q.2))) (g df) x = g (ab_lsw ks df x) := by
  induction ks with
  | nil => rfl
  | cons q r ih =>
    obtain ⟨a, b⟩ := q
    show Op.lookupswitch.offset ((a, g b) :: r.map (fun q => (q.1, g q.2))) (g df) x = g (if x = a then b else ab_lsw r df x)
    unfold Op.lookupswitch.offset
    by_cases h : x = a
    · subst h; simp
    · have h' : ¬ a = x := fun q => h q.symm
      simp [h, h', ih]
theorem sn_lsw {df0 : Int} {ps : Array (Int × Int)} {len df : Nat} {ks : List (Int × Nat)} (hd : decode Y.1 pc = .ok (.lookupswitch df0 ps, len)) (hp : (ps.toList.zip (ps.toList.drop 1)).all (fun (a, next) => a.1 < next.1) = true)
    (hk : ps.toList = ks.map (fun q => (q.1, ((Y.2.2.2.2.2.getD q.2 0 : Nat) : Int) - pc))) (hdf : df0 = ((Y.2.2.2.2.2.getD df 0 : Nat) : Int) - pc) (hin : df < Y.2.2.2.2.2.length ∧ ∀ q ∈ ks, q.2 < Y.2.2.2.2.2.length) : ab_Sd G Z d Y pc (o_sw (fun x => ab_lsw ks df x.toInt)) := by
  refine ab_Sd.jmp fun lv st w r hr => ?_
  unfold o_sw at hr
  split at hr
  · rename_i x st'
    have hlt : ∀ (l : List (Int × Nat)) (z : Int), (∀ q ∈ l, q.2 < Y.2.2.2.2.2.length) → ab_lsw l df z < Y.2.2.2.2.2.length := by
      intro l z
      induction l with
      | nil => intro _; exact hin.1
      | cons q r ih =>
        intro hq
        obtain ⟨a, b⟩ := q
        show (if z = a then b else ab_lsw r df z) < _
        split
        · exact hq _ List.mem_cons_self
        · exact ih (fun q h => hq q (List.mem_cons_of_mem _ h))
    have hb := hlt ks x.toInt hin.2
    refine ⟨ab_lsw ks df x.toInt, lv, st', Y.2.2.2.2.2.getD (ab_lsw ks df x.toInt) 0, (Option.some.inj hr).symm, ?_, fun p l e R s m args below meth c Q n0 t0 hX kk ls H locs hl ha hS => lv_lookup (off := ((Y.2.2.2.2.2.getD (ab_lsw ks df x.toInt) 0 : Nat) : Int) - pc) hX.1 hX.2.1 hd hp ?_ (by omega) (kk ls H locs hl ha hS)⟩
    · rw [List.getD_eq_getElem?_getD, List.getElem?_eq_getElem hb]
      rfl
    · rw [hk, hdf]
      exact ab_lsw_off (g := fun b => ((Y.2.2.2.2.2.getD b 0 : Nat) : Int) - pc) ks df x.toInt
  · cases hr
end ABM
