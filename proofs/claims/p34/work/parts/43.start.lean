/-! ===== the claim out of one run of the engine ===== -/
theorem sw_n0 : Cond.methodLinkNest "DominoKing" 21 ⟨"DominoKing$Thoughts", "<init>", "()V"⟩ "DominoKing" ∈ lw_tbl := List.mem_of_getElem? (i := 157) (by decide +kernel)
theorem sw_n1 : Cond.methodLinkNest "DominoKing" 28 ⟨"DominoKing$Tape", "<init>", "()V"⟩ "DominoKing" ∈ lw_tbl := List.mem_of_getElem? (i := 175) (by decide +kernel)
theorem sw_n2 : Cond.methodLinkNest "DominoKing" 58 ⟨"DominoKing$Sheet", "<init>", "()V"⟩ "DominoKing" ∈ lw_tbl := List.mem_of_getElem? (i := 237) (by decide +kernel)
theorem sw_n3 : Cond.methodLinkNest "DominoKing" 59 ⟨"DominoKing$Slot", "<init>", "()V"⟩ "DominoKing" ∈ lw_tbl := List.mem_of_getElem? (i := 256) (by decide +kernel)
theorem sw_n4 : Cond.methodLinkNest "DominoKing$Slot" 9 ⟨"DominoKing$Sheet", "<init>", "()V"⟩ "DominoKing" ∈ lw_tbl := List.mem_of_getElem? (i := 261) (by decide +kernel)
theorem sw_n5 : Cond.methodLinkNest "DominoKing$Table" 86 ⟨"DominoKing", "within", "(III)Z"⟩ "DominoKing" ∈ lw_tbl := List.mem_of_getElem? (i := 341) (by decide +kernel)
theorem sw_n6 : Cond.methodLinkNest "DominoKing$Table" 114 ⟨"DominoKing", "clamp", "(III)I"⟩ "DominoKing" ∈ lw_tbl := List.mem_of_getElem? (i := 368) (by decide +kernel)
theorem sw_n7 : Cond.methodLinkNest "DominoKing$Sheet" 34 ⟨"DominoKing", "within", "(III)Z"⟩ "DominoKing" ∈ lw_tbl := List.mem_of_getElem? (i := 637) (by decide +kernel)
theorem sw_a0 : Cond.arrayOver (.object "DominoKing$Text") ∈ lw_tbl := List.mem_of_getElem? (i := 89) (by decide +kernel)
theorem sw_a1 : Cond.arrayOver (.object "DominoKing$Sheet") ∈ lw_tbl := List.mem_of_getElem? (i := 233) (by decide +kernel)
theorem sw_a2 : Cond.arrayOver (.object "DominoKing$Slot") ∈ lw_tbl := List.mem_of_getElem? (i := 235) (by decide +kernel)
theorem sw_t0 : Cond.stringRef "DominoKing$Reader" 18 "" ∈ lw_tbl := List.mem_of_getElem? (i := 195) (by decide +kernel)
theorem sw_t1 : Cond.stringRef "DominoKing$Reader" 78 "dark" ∈ lw_tbl := List.mem_of_getElem? (i := 689) (by decide +kernel)
theorem sw_t2 : Cond.stringRef "DominoKing$Reader" 84 "fee" ∈ lw_tbl := List.mem_of_getElem? (i := 742) (by decide +kernel)
theorem sw_t3 : Cond.stringRef "DominoKing$Reader" 86 "fine" ∈ lw_tbl := List.mem_of_getElem? (i := 743) (by decide +kernel)
theorem sw_t4 : Cond.stringRef "DominoKing$Reader" 42 "srk" ∈ lw_tbl := List.mem_of_getElem? (i := 744) (by decide +kernel)
theorem sw_t5 : Cond.stringRef "DominoKing$Reader" 44 "pm" ∈ lw_tbl := List.mem_of_getElem? (i := 745) (by decide +kernel)
theorem sw_t6 : Cond.stringRef "DominoKing$Reader" 46 "lrt" ∈ lw_tbl := List.mem_of_getElem? (i := 746) (by decide +kernel)
theorem sw_z : Cond.laysStatic "DominoKing" "ABOVE" "[I" ∈ lw_tbl := List.mem_of_getElem? (i := 416) (by decide +kernel)
theorem sw_zc : Cond.laysStatic "java/lang/String" "COMPACT_STRINGS" "Z" ∈ lw_tbl := List.mem_of_getElem? (i := 703) (by decide +kernel)
theorem sw_zq : Cond.laysStatic "jdk/internal/util/Preconditions" "SIOOBE_FORMATTER" "Ljava/util/function/BiFunction;" ∈ lw_tbl := List.mem_of_getElem? (i := 719) (by decide +kernel)
theorem sw_ic : Cond.initialized "java/lang/String" ∈ lw_tbl := List.mem_of_getElem? (i := 69) (by decide +kernel)
theorem sw_iq : Cond.initialized "jdk/internal/util/Preconditions" ∈ lw_tbl := List.mem_of_getElem? (i := 71) (by decide +kernel)
theorem sw_f : Cond.fieldLinkNest "DominoKing$Kinds" 9 "DominoKing" "ABOVE" "[I" "DominoKing" ∈ lw_tbl := List.mem_of_getElem? (i := 415) (by decide +kernel)

theorem ab_BfP (G : ab_G) (xs : List Int32) (i d : Nat) (cal : ab_F) (hcs : ab_CS G (ab_Z G xs) ab_Mf cal d) : ab_BS G (ab_Z G xs) (d + 1) (ab_mY (ab_Mf i) (ab_Pf i)) (ab_Pf i) (ab_Bf i cal) ∧ (ab_Bf i cal ≠ [] → (ab_Pf i)[0]? = some 0 ∧ plainName (ab_Mf i).1.cls = true) := by
  unfold ab_Pf ab_Bf
  cases h : ab_T3[i]? with
  | none => exact ⟨trivial, fun h => absurd rfl h⟩
  | some q =>
    have h2 := ab_A3 hcs q (List.mem_of_getElem? h)
    rw [ab_Mf3 h]
    exact h2
/-- the engine's calls -/
abbrev EX (F d : Nat) : ab_F := ab_ex (fun i => (ab_Mf i).2.2.1) ab_Bf F d
theorem EX_CS (G : ab_G) (xs : List Int32) (F d : Nat) : ab_CS G (ab_Z G xs) ab_Mf (EX F d) d := ab_ex_CS2 (pcs := ab_Pf) (fun i d cal h => ab_BfP G xs i d cal h) d
theorem ab_arr {s : State} {args : Array Value} {ty : FieldType} (hob : ∀ C, ty ≠ .object C) (h : (Cond.arrayClass ty).before args s = true) : ∃ cA : ClassId, ArrOfT s cA ty ∧ va_RA s cA ty := by
  obtain ⟨c, k, comp, h1, h2, h3⟩ := Cond.arrayClass_spec h
  refine ⟨c, fun n z => ⟨fun k h => (by cases h), k, h2, comp, h3⟩, ?_⟩
  cases ty with
  | object C => exact absurd rfl (hob C)
  | _ => exact h1
theorem ab_arrO {s : State} {args : Array Value} {C : String} (h : (Cond.arrayOver (.object C)).before args s = true) : ∃ cA : ClassId, ArrOfT s cA (.object C) ∧ va_RA s cA (.object C) := by
  obtain ⟨comp, c, k, h1, h2, h3, h4, h5⟩ := Cond.arrayOver_spec h
  exact ⟨c, fun n z => ⟨fun k h => (by cases h), k, h3, comp, h4⟩, k, comp, h3, h4, h1, h5⟩
theorem ab_vkS {N : Nat} {len : List Nat} {byt : List (List Int32)} {aK aV bK bV : Nat → Nat} {A : Nat → Prop} {U : State} {H : Heap} (h : vk_S N len byt aK aV A U H) (hK : ∀ i, i < N → bK i = aK i) (hV : ∀ i, i < N → bV i = aV i) : vk_S N len byt bK bV A U H := by
  refine ⟨fun i hi => ?_, fun i j hi hj e => ?_⟩
  · rw [hK i hi, hV i hi]; exact h.1 i hi
  · rw [hK i hi, hK j hj] at e; exact h.2 i j hi hj e
def ab_stm (j : Nat) : Term := .string "DominoKing$Reader" ([18, 78, 84, 86, 42, 44, 46].getD j 0)
/-- what the Statement gives of the strings, and of the row of kinds -/
theorem ab_gv_str {args : Array Value} {s : State} {A : Nat → Prop} (hgv : (Jvm.Cond.and given_1 narrow_1).before args s = true) (hA : ∀ a : Nat, a < s.heap.size → ¬ A a) : ∃ adK adV : Nat → Nat, vk_S 7 ab_slen ab_sbyt adK adV A s s.heap ∧ ∀ i : Nat, i < 7 → (ab_stm i).eval args s none [] s = some (.ref (adK i)) := by
  have hs := flat_of_before _ hgv
  refine vk_Sof (N := 7) (tm := ab_stm) (len := ab_slen) (byt := ab_sbyt) ?_ ?_ ?_ ?_ ?_ ?_ ?_ hA
  · decide
  · have h : ∀ i : Nat, i < 7 → Cond.exactly (ab_stm i) "java/lang/String" ∈ flatC (Jvm.Cond.and given_1 narrow_1) := by decide +kernel
    exact fun i hi => hs _ (h i hi)
  · have h : ∀ i : Nat, i < 7 → Cond.eq (.field (ab_stm i) "java/lang/String" "coder" "B") (.int 0) ∈ flatC (Jvm.Cond.and given_1 narrow_1) := by decide +kernel
    exact fun i hi => hs _ (h i hi)
  · have h : ∀ i : Nat, i < 7 → Cond.arrayOf (.field (ab_stm i) "java/lang/String" "value" "[B") .byte ∈ flatC (Jvm.Cond.and given_1 narrow_1) := by decide +kernel
    exact fun i hi => hs _ (h i hi)
  · have h : ∀ i : Nat, i < 7 → Cond.eq (.length (.field (ab_stm i) "java/lang/String" "value" "[B")) (.int (Int32.ofNat (ab_slen.getD i 0))) ∈ flatC (Jvm.Cond.and given_1 narrow_1) := by decide +kernel
    exact fun i hi => hs _ (h i hi)
  · have h : ∀ i : Nat, i < 7 → ∀ j : Nat, j < ab_slen.getD i 0 → Cond.eq (.elem (.field (ab_stm i) "java/lang/String" "value" "[B") (.int (Int32.ofNat j))) (.int ((ab_sbyt.getD i []).getD j 0)) ∈ flatC (Jvm.Cond.and given_1 narrow_1) := by decide +kernel
    exact fun i hi j hj => hs _ (h i hi j hj)
  · have h : ∀ i : Nat, i < 7 → ∀ j : Nat, j < 7 → i ≠ j → Cond.not (Cond.eq (ab_stm i) (ab_stm j)) ∈ flatC (Jvm.Cond.and given_1 narrow_1) ∨ Cond.not (Cond.eq (ab_stm j) (ab_stm i)) ∈ flatC (Jvm.Cond.and given_1 narrow_1) := by decide +kernel
    intro i j hi hj hij
    rcases h i hi j hj hij with q | q
    · exact Or.inl (hs _ q)
    · exact Or.inr (hs _ q)
def ab_atm : Term := .static "DominoKing" "ABOVE" "[I"
theorem ab_gv_above {args : Array Value} {s : State} {A : Nat → Prop} (hgv : (Jvm.Cond.and given_1 narrow_1).before args s = true) (hA : ∀ a : Nat, a < s.heap.size → ¬ A a) : ∃ t : Nat, ab_atm.eval args s none [] s = some (.ref t) ∧ va_T .int t 6 (fun j => .int (ab_above.getD j 0)) A s s.heap := by
  have hs := flat_of_before _ hgv
  refine va_Tof (N := 6) (by decide) (hs _ (by decide +kernel)) (va_eqt (hs _ (by decide +kernel))) ?_ hA
  have h : ∀ j : Nat, j < 6 → Cond.eq (.elem ab_atm (.int (Int32.ofNat j))) (.int (ab_above.getD j 0)) ∈ flatC (Jvm.Cond.and given_1 narrow_1) := by decide +kernel
  exact fun j hj => va_eqt (hs _ (h j hj))
