/-! ===== from the engine's run to the law's walk ===== -/
def R_law : String := "DominoKingLaw"
def lw_P (b : Addr) (xs : List Int32) (args : Array Value) (s : State) : Prop := args = #[.ref b] ∧ s.IntsAt b xs ∧ xs.length ≤ 3072 ∧ (Jvm.Cond.and given_1 narrow_1).before args s = true
def lw_Q (_ : Array Value) (s : State) (o : Outcome) (t : State) : Prop := o = .returned (some (.int 1)) ∧ Framed s o t [] 600000 7302250
def lw_Z (below : List Frame) (a : Array Value) (s : State) : State → Prop := fun t => ∃ o, t.status = .running ∧ Ended t below o ∧ lw_Q a s o t
theorem lw_ret {p : Program} {l : Launch} {e : Env} {s : State} {m : MethodId} {below : List Frame} {meth : Method} {c : Code} {b : Nat} (hx : p.tables.exec = Jvm.exec) (hb : c.code = code) (hr : meth.sig.returnType = ret) (hlocks : meth.locks = false) {pc : Nat} {H : Heap} {ls : Array Slot} (hdg : decode code pc = .ok (.ireturn, 1)) : W p l e room_1 s m #[Value.ref b] below meth c H [] 600000 7302250 (lw_Z below #[Value.ref b] s) (F0 m pc ls [.int 1]) := by
  intro T hT X
  obtain ⟨fs, hret, hrun, hended, hW, hframe⟩ := X.leave (v := some (.int 1)) (hlocks := hlocks) (fun h => by rw [hr] at h; cases h)
  have hmeth' : T.vm.method? m = some meth := X.method'
  refine ⟨T.setFrames fs, ?_, .returned (some (.int 1)), hrun, hended, rfl, ⟨_, rfl⟩, hW, hframe⟩
  jvm_step X.here [X.here.top, hx, hb, hdg, hmeth', hr, ret, narrow_b1]
  (try refine ⟨rfl, ?_⟩); (try refine ⟨rfl, ?_⟩)
  first | (intro acts; rw [hret _ acts rfl rfl rfl]) | rw [hret _ _ rfl rfl rfl]
  exact Steps.refl _
/-- the engine runs the law, and answers 1 -/
def ab_law (xs : List Int32) : Prop := ∃ (F d n : Nat) (w' : ab_W), d ≤ 1300 ∧ ab_run (bL_law xs (EX F d)) n 0 (ab_ent [.ref 1000001] 4) [] [] = some (some (.int 1), w') ∧ w'.length ≤ 600000 ∧ ab_tot w' ≤ 7302250
theorem ab_walk {p : Program} {e : Env} {s : State} {m : MethodId} {below : List Frame} {meth : Method} {c : Code} (l : Launch) {b : Nat} {xs : List Int32} (hlaw : ab_law xs) (hx : p.tables.exec = Jvm.exec) (hb : c.code = code) (hr : meth.sig.returnType = ret) (hml : c.maxLocals = 4) (hown : s.vm.findClass R_law = some m.cls) (hts : ∀ w ∈ lw_tbl, w.before #[Value.ref b] s = true) (hX : va_X b xs.length (fun j => xs.getD j 0) s s.heap) (hbl : b < s.heap.size) (hlocks : meth.locks = false) (hnm : meth.name = "law") (hgv : (Jvm.Cond.and given_1 narrow_1).before #[Value.ref b] s = true) : W p l e room_1 s m #[Value.ref b] below meth c s.heap [] 0 0 (lw_Z below #[Value.ref b] s) (entryFrame m ([Value.ref b] : List Value).toArray 4) := by
  obtain ⟨F, d, n, w', hd, hrun, hw1, hw2⟩ := hlaw
  have hgw : ∀ w ∈ ab_GW, w.before #[Value.ref b] s = true := fun w hw => hts w (List.mem_filter.mp hw).1
  have hA : ∀ a : Nat, a < s.heap.size → ¬ (s.heap.size ≤ a) := fun a h => Nat.not_le.mpr h
  obtain ⟨adK, adV, hvs, hva⟩ := ab_gv_str (A := fun q => s.heap.size ≤ q) hgv hA
  obtain ⟨tA, htA, hTA⟩ := ab_gv_above (A := fun q => s.heap.size ≤ q) hgv hA
  have hsv := flat_of_before _ hgv
  have hZc : va_Z "java/lang/String" "COMPACT_STRINGS" "Z" (.int 1) (fun q => s.heap.size ≤ q) s s.heap := va_Zof (hts _ sw_zc) (hts _ sw_ic) (va_eqi (hsv _ (by decide +kernel))) hA
  have hZq : va_Zq "jdk/internal/util/Preconditions" "SIOOBE_FORMATTER" "Ljava/util/function/BiFunction;" (fun q => s.heap.size ≤ q) s s.heap := va_Zqof (hts _ sw_zq) (hts _ sw_iq) (hsv _ (by decide +kernel)) hA
  obtain ⟨tQ, hZq⟩ : ∃ tQ : Nat, va_Z "jdk/internal/util/Preconditions" "SIOOBE_FORMATTER" "Ljava/util/function/BiFunction;" .null (fun q => s.heap.size ≤ q) s s.heap ∨ va_Z "jdk/internal/util/Preconditions" "SIOOBE_FORMATTER" "Ljava/util/function/BiFunction;" (.ref tQ) (fun q => s.heap.size ≤ q) s s.heap := by
    rcases hZq with z | ⟨t, z⟩
    · exact ⟨0, Or.inl z⟩
    · exact ⟨t, Or.inr z⟩
  obtain ⟨c0, i0, K0⟩ := u_known (C := RX1) (T := TX1) (N := 11) hgw hinX1 (hgw _ w_190)
  obtain ⟨c1, i1, K1⟩ := u_known (C := RX2) (T := TX2) (N := 3) hgw hinX2 (hgw _ w_236)
  obtain ⟨c2, i2, K2⟩ := u_known (C := RX3) (T := TX3) (N := 6) hgw hinX3 (hgw _ w_255)
  obtain ⟨c3, i3, K3⟩ := u_known (C := RX4) (T := TX4) (N := 15) hgw hinX4 (hgw _ w_83)
  obtain ⟨c4, i4, K4⟩ := u_known (C := RX5) (T := TX5) (N := 2) hgw hinX5 (hgw _ w_174)
  obtain ⟨c5, i5, K5⟩ := u_known (C := RX6) (T := TX6) (N := 5) hgw hinX6 (hgw _ w_838)
  obtain ⟨c6, i6, K6⟩ := u_known (C := RX7) (T := TX7) (N := 3) hgw hinX7 (hgw _ w_156)
  obtain ⟨c7, i7, K7⟩ := u_known (C := RX8) (T := TX8) (N := 10) hgw hinX8 (hgw _ w_75)
  obtain ⟨c8, i8, K8⟩ := u_known (C := RX9) (T := TX9) (N := 36) hgw hinX9 (hgw _ w_986)
  obtain ⟨a0, A0⟩ := ab_arr (ty := .int) (fun C h => by cases h) (hgw _ w_154)
  obtain ⟨a1, A1⟩ := ab_arr (ty := .char) (fun C h => by cases h) (hgw _ w_1100)
  obtain ⟨a2, A2⟩ := ab_arr (ty := .boolean) (fun C h => by cases h) (hgw _ w_1101)
  obtain ⟨a3, A3⟩ := ab_arrO (hts _ sw_a1)
  obtain ⟨a4, A4⟩ := ab_arrO (hts _ sw_a2)
  obtain ⟨a5, A5⟩ := ab_arrO (hts _ sw_a0)
  obtain ⟨a6, A6⟩ := ab_arr (ty := .byte) (fun C h => by cases h) (hgw _ w_231)
  let G : ab_G := (((fun k => if k = 0 then c0 else if k = 1 then c1 else if k = 2 then c2 else if k = 3 then c3 else if k = 4 then c4 else if k = 5 then c5 else if k = 6 then c6 else if k = 7 then c7 else c8, fun k => if k = 0 then i0 else if k = 1 then i1 else if k = 2 then i2 else if k = 3 then i3 else if k = 4 then i4 else if k = 5 then i5 else if k = 6 then i6 else if k = 7 then i7 else i8), fun k => if k = 0 then a0 else if k = 1 then a1 else if k = 2 then a2 else if k = 3 then a3 else if k = 4 then a4 else if k = 5 then a5 else a6), (s.heap.size, fun k => if k = 0 then tA else if k = 1 then b else if k = 20 then tQ else if k < 12 then adK (k - 2) else adV (k - 12)))
  have hK : va_K G.1.1 vwCl (ab_tys G) s := by
    refine ⟨fun k q hq => ?_, fun k q hq => ?_⟩
    · match k, hq with
    | 0, hq => cases hq; exact K0
    | 1, hq => cases hq; exact K1
    | 2, hq => cases hq; exact K2
    | 3, hq => cases hq; exact K3
    | 4, hq => cases hq; exact K4
    | 5, hq => cases hq; exact K5
    | 6, hq => cases hq; exact K6
    | 7, hq => cases hq; exact K7
    | 8, hq => cases hq; exact K8
      | k + 9, hq => simp [vwCl] at hq
    · match k, hq with
      | 0, hq => cases hq; exact A0
      | 1, hq => cases hq; exact A1
      | 2, hq => cases hq; exact A2
      | 3, hq => cases hq; exact A3
      | 4, hq => cases hq; exact A4
      | 5, hq => cases hq; exact A5
      | 6, hq => cases hq; exact A6
      | k + 7, hq => simp [ab_tys] at hq
  have hG1 : ∀ j, j < 7 → G.2.2 (2 + j) = adK j := by
    intro j hj
    show (if 2 + j = 0 then tA else if 2 + j = 1 then b else if 2 + j = 20 then tQ else if 2 + j < 12 then adK (2 + j - 2) else adV (2 + j - 12)) = adK j
    rw [if_neg (by omega), if_neg (by omega), if_neg (by omega), if_pos (by omega), Nat.add_sub_cancel_left]
  have hG2 : ∀ j, j < 7 → G.2.2 (12 + j) = adV j := by
    intro j hj
    show (if 12 + j = 0 then tA else if 12 + j = 1 then b else if 12 + j = 20 then tQ else if 12 + j < 12 then adK (12 + j - 2) else adV (12 + j - 12)) = adV j
    rw [if_neg (by omega), if_neg (by omega), if_neg (by omega), if_neg (by omega), Nat.add_sub_cancel_left]
  have hZ : ab_Z G xs s := by
    refine ⟨fun j q hj => ?_, fun j C hj => ?_, fun j q hj => ?_, ⟨?_, va_Nw.of rfl (hts _ sw_f)⟩, hTA, ⟨hX, hbl⟩, ab_vkS hvs hG1 hG2, hZc, hZq, Nat.le_refl _⟩
    · match j, hj with

      | 0, hj => cases hj; exact va_Nw.of rfl (hts _ sw_n0)
      | 1, hj => cases hj; exact va_Nw.of rfl (hts _ sw_n1)
      | 2, hj => cases hj; exact va_Nw.of rfl (hts _ sw_n2)
      | 3, hj => cases hj; exact va_Nw.of rfl (hts _ sw_n3)
      | 4, hj => cases hj; exact va_Nw.of rfl (hts _ sw_n4)
      | 5, hj => cases hj; exact va_Nw.of rfl (hts _ sw_n5)
      | 6, hj => cases hj; exact va_Nw.of rfl (hts _ sw_n6)
      | 7, hj => cases hj; exact va_Nw.of rfl (hts _ sw_n7)
      | j + 8, hj => simp [ab_nst] at hj
    · match j, hj with
      | 0, hj => cases hj; exact va_AO.of (hts _ sw_a0)
      | 1, hj => cases hj; exact va_AO.of (hts _ sw_a1)
      | 2, hj => cases hj; exact va_AO.of (hts _ sw_a2)
      | j + 3, hj => simp [ab_aov] at hj
    · match j, hj with
      | 0, hj => cases hj; exact vk_R.of (A := #[Value.ref b]) (hts _ sw_t0) (hva 0 (by decide))
      | 1, hj => cases hj; exact vk_R.of (A := #[Value.ref b]) (hts _ sw_t1) (hva 1 (by decide))
      | 2, hj => cases hj; exact vk_R.of (A := #[Value.ref b]) (hts _ sw_t2) (hva 2 (by decide))
      | 3, hj => cases hj; exact vk_R.of (A := #[Value.ref b]) (hts _ sw_t3) (hva 3 (by decide))
      | 4, hj => cases hj; exact vk_R.of (A := #[Value.ref b]) (hts _ sw_t4) (hva 4 (by decide))
      | 5, hj => cases hj; exact vk_R.of (A := #[Value.ref b]) (hts _ sw_t5) (hva 5 (by decide))
      | 6, hj => cases hj; exact vk_R.of (A := #[Value.ref b]) (hts _ sw_t6) (hva 6 (by decide))
      | j + 7, hj => simp [ab_txt] at hj
    · exact va_Zref (hts _ sw_z) (hgw _ w_55) htA hA
  have hXx : ab_X G (ab_Z G xs) p s m #[Value.ref b] meth c (ab_mY mL_law pL_law) 0 := ⟨hx, hb, hml, hown, hgw, hK, hZ, rfl, hr, hlocks, hnm, ab_Z_st G xs⟩
  have hR : ab_Rm (d + 1) 0 0 w'.length (ab_tot w') room_1 := by
    show d + 1 ≤ 2048 ∧ 64 * (d + 1) ≤ 84000 ∧ w'.length ≤ 0 + 600000 ∧ ab_tot w' ≤ 0 + 7302250
    omega
  have hQ : ab_Rt G p l e room_1 s m #[Value.ref b] below meth c (lw_Z below #[Value.ref b] s) (ab_mY mL_law pL_law) 0 0 (some (.int 1)) w' := by
    intro hok pc ls H locs ha hS hdg
    refine va_forget (fun q hq => hS.2.2 q hq) ?_
    refine W.widen (k := 600000) (n := 7302250) (by omega) (by omega) ?_
    exact lw_ret hx hb hr hlocks hdg
  obtain ⟨pc, hpc, hJ⟩ := ab_run_J (Y := ab_mY mL_law pL_law) (sL_law (EX_CS G xs F d)) hXx hR hQ n 0 _ _ [] hrun (Nat.le_refl _) (Nat.le_refl _)
  have h0 : pL_law[0]? = some 0 := rfl
  cases h0.symm.trans hpc
  have hl := lv_entry ([Value.ref b]) (n := 4) (Nat.le_of_ble_eq_true rfl)
  rw [lg_entry_eq]
  have hG3 : ab_cv G (.ref 1000001) = .ref b := rfl
  have hJ2 := hJ _ s.heap [] (ab_has_sub hl (fun q hq => by
    have h := ab_lp_ent (G := G) (As := [.ref 1000001]) (nL := 4) (fun v hv => by simp at hv; subst hv; rfl) q hq
    exact h)) ⟨fun k q h => by simp [ab_ws] at h, rfl, by simp⟩ va_S.rf
  exact hJ2
set_option maxHeartbeats 4000000 in
theorem lw_walk (hlaw : ∀ xs : List Int32, xs.length ≤ 3072 → ab_law xs) (l : Launch) (b : Addr) (xs : List Int32) : MetFree l x (headSpec (Jvm.Cond.code x code maxLocals ret :: tables_1) room_1) (lw_P b xs) (fun _ _ _ _ _ => True) lw_Q := by
  refine MetFree.of_bodyS (code := code) (maxLocals := maxLocals) (ret := ret) (by decide) ?_ ?_
  · intro args s m h hn
    obtain ⟨meth, c, h1, h2, h3, h4, h5, h6, -, -⟩ := Cond.code_spec hn (atoms_spec (ws := Jvm.Cond.code x code maxLocals ret :: tables_1) h _ List.mem_cons_self)
    exact ⟨meth, c, h1, h2, h3, h4, h5, h6⟩
  · intro p e s m args below meth c s₁ B hml0 hP _
    obtain ⟨rfl, hx, hbd, hgv⟩ := hP
    obtain ⟨scr, harrAt, hlist, hof, hsmall⟩ := hx
    obtain ⟨hcb, hkn, -, -⟩ := State.arrayAt?_spec harrAt
    have hown : s.vm.findClass R_law = some m.cls := findClass_of_methodNamed B.named
    have hts0 : ∀ c ∈ (Jvm.Cond.code x code maxLocals ret :: tables_1), c.before #[Value.ref b] s = true := atoms_spec (ws := Jvm.Cond.code x code maxLocals ret :: tables_1) B.pre
    have hts : ∀ w ∈ lw_tbl, w.before #[Value.ref b] s = true := k2_hts_sels lw_privs (fun w hw => hts0 w (List.mem_cons_of_mem _ hw)) lw_privs_ok
    have hml : c.maxLocals = 4 := B.maxLocals_eq (hts0 _ List.mem_cons_self)
    have X₀ : Stand p l e room_1 s m #[Value.ref b] below meth c s₁ [] 0 0 := Stand.of_body B
    have hh0 : s₁.heap = s.heap := by rw [B.state]; rfl
    have hsz : scr.slots.size = xs.length := by rw [← Array.length_toList, hlist, List.length_map]
    have hval : ∀ j : Nat, j < xs.length → scr.slots[j]? = some (.int (xs.getD j 0)) := fun j hj => by
      rw [← Array.getElem?_toList, hlist]
      simp [hj]
    have hbl : b < s.heap.size := (Array.getElem?_eq_some_iff.mp hcb).1
    have hX : va_X b xs.length (fun j => xs.getD j 0) s s.heap := ⟨scr, hcb, hof, hkn, hsz, hval⟩
    have K : W p l e room_1 s m #[Value.ref b] below meth c s₁.heap [] 0 0 (lw_Z below #[Value.ref b] s) (entryFrame m ([Value.ref b] : List Value).toArray 4) := by
      rw [hh0]
      exact ab_walk l (hlaw xs hbd) B.exec B.bytes B.returns hml hown hts hX hbl B.notSynchronized (name_of_methodNamed B.named B.method).1 hgv
    obtain ⟨t, a1, o, b1, b2, b3⟩ := K s₁ rfl X₀
    exact ⟨t, o, a1, b1, b2, b3⟩
theorem lw_pre_spec {args : Array Value} {s : State} (h : (Jvm.Cond.and given_1 narrow_1).before args s = true) (hr : rest_1_c.before args s = true) : ∃ (b : Addr) (xs : List Int32), lw_P b xs args s := by
  have hs := flat_of_before _ h
  have hq := flat_of_before _ hr
  have hc : (Cond.count 1).before args s = true := hs _ (by decide +kernel)
  have harr : (Cond.arrayOf (.arg 0) .int).before args s = true := hs _ (by decide +kernel)
  have hle : (Cond.le (.length (.arg 0)) (.int 3072)).before args s = true := hs _ (by decide +kernel)
  have hlen : (Cond.isInt (.length (.arg 0))).before args s = true := hq _ (by decide +kernel)
  have hall : (Cond.all (.arg 0) (.isInt (.elem (.arg 0) (.index 0)))).before args s = true := hq _ (by decide +kernel)
  obtain ⟨b, xs, hb, hx⟩ := State.ints_of_pre rfl harr hlen hall
  have hsm : xs.length < 2 ^ 31 := hx.choose_spec.2.2.2
  have hev : (Term.length (.arg 0)).eval args s none [] s = some (.int xs.length.toInt32) := hx.length_eval hb
  have hv := Cond.le_ints hev (show (Term.int 3072).eval args s none [] s = some (.int 3072) from rfl)
  have hd : xs.length.toInt32 ≤ 3072 := by
    simpa [Cond.before, Cond.holds, hv] using hle
  have hN : xs.length ≤ 3072 := (Int32.ofNat_le_ofNat hsm (by decide)).mp (show Int32.ofNat xs.length ≤ Int32.ofNat 3072 from hd)
  exact ⟨b, xs, Cond.one_arg hc (show args[0]? = some (.ref b) from hb), hx, hN, h⟩
theorem lw_comes (hlaw : ∀ xs : List Int32, xs.length ≤ 3072 → ab_law xs) (l : Launch) : Comes l x (Jvm.Cond.code x code maxLocals ret :: tables_1) room_1 (fun tb e args s => Calls_1 tb e args s ∧ rest_1 tb e args s ∧ Pre_1 tb e args s)
    (fun _ _ args s o t => lw_Q args s o t) := by
  intro p e ha hc hk s m args below hf hfit hheap happ hpre
  obtain ⟨b, xs, hP⟩ := lw_pre_spec hpre.2.2 hpre.2.1
  obtain ⟨k, o, h1, h2, h3, hQ⟩ := lw_walk hlaw l b xs p e ha hc hk s m args below hf ((Spec.applies_iff_loose hf).mp happ).1 hP trivial
  exact ⟨k, o, h1, h2, h3, hQ⟩
theorem lw_frame {s t : State} {o : Outcome} {args : Array Value} (h : Framed s o t [] 600000 7302250) :
    Framed s o t (fieldLocs frame_1_writes args s ++ arrayLocs frame_1_arrays args s ++ staticLocs frame_1_statics s) 600000 7302250 := h
theorem lw_limb (hlaw : ∀ xs : List Int32, xs.length ≤ 3072 → ab_law xs) (L : Cond) (hL : ∀ (args : Array Value) (s t : State), L.after args s (.returned (some (.int 1))) t = true) :
    ArmFor flags0 classFile x code maxLocals ret World_1 tables_1 room_1 Calls_1 rest_1 Pre_1
      (fun tb e a s o t => postC L tb e a s o t ∧ Framed s o t (fieldLocs frame_1_writes a s ++ arrayLocs frame_1_arrays a s ++ staticLocs frame_1_statics s) 600000 7302250) := by
  intro l hflags _ _ p e ha hc hk s m args below hf hfit hheap happ hpre
  obtain ⟨k, o, h1, h2, h3, rfl, hF⟩ := lw_comes hlaw l p e ha hc hk s m args below hf hfit hheap happ hpre
  exact ⟨k, _, h1, h2, h3, hL args s _, lw_frame hF⟩
theorem ab_claim (hlaw : ∀ xs : List Int32, xs.length ≤ 3072 → ab_law xs) : Claimed_1_1 ∧ Claimed_1_2 := ⟨lw_limb hlaw limb_1_1 (fun args s t => by simp [limb_1_1, Cond.after, Cond.holds, Cond.value]), lw_limb hlaw limb_1_2 (fun args s t => Cond.after_iff.mpr (by
  first | (rw [show limb_1_2 = Cond.eq .result (.int 1) from rfl, Cond.eq_ints (x := 1) (y := 1) rfl rfl]; simp; done) | (simp [limb_1_2, Cond.value, Term.eval]; done)))⟩
