/-! ===== running by rules, over whole numbers ===== -/
section RJ
variable {B : List ab_K} {N : Nat} {k : ab_K} {lv : ab_L} {st : List Value} {w w' : ab_W} {r : Option Value × ab_W} {tg i t : Nat} {a b : Int} {xs : List Int32}
theorem rj_ceq (ha : jr a) (hb : jr b) (h1 : a = b → ab_run B N tg lv st w = some r) (h2 : ¬ (a = b) → Rb B N k lv st w r) : Rb B N (o_cmp (fun x y => decide (x = y)) tg k) lv (.int (jI b) :: .int (jI a) :: st) w r := rb_ceq (fun h => h1 ((jI_eq ha hb).mp h)) (fun h => h2 (fun q => h ((jI_eq ha hb).mpr q)))
theorem rj_cne (ha : jr a) (hb : jr b) (h1 : ¬ a = b → ab_run B N tg lv st w = some r) (h2 : ¬ (¬ a = b) → Rb B N k lv st w r) : Rb B N (o_cmp (fun x y => decide (¬ x = y)) tg k) lv (.int (jI b) :: .int (jI a) :: st) w r := rb_cne (fun h => h1 ((not_congr (jI_eq ha hb)).mp h)) (fun h => h2 (fun q => h ((not_congr (jI_eq ha hb)).mpr q)))
theorem rj_clt (ha : jr a) (hb : jr b) (h1 : a < b → ab_run B N tg lv st w = some r) (h2 : ¬ (a < b) → Rb B N k lv st w r) : Rb B N (o_cmp (fun x y => decide (x < y)) tg k) lv (.int (jI b) :: .int (jI a) :: st) w r := rb_clt (fun h => h1 ((jI_lt ha hb).mp h)) (fun h => h2 (fun q => h ((jI_lt ha hb).mpr q)))
theorem rj_cge (ha : jr a) (hb : jr b) (h1 : b ≤ a → ab_run B N tg lv st w = some r) (h2 : ¬ (b ≤ a) → Rb B N k lv st w r) : Rb B N (o_cmp (fun x y => decide (y ≤ x)) tg k) lv (.int (jI b) :: .int (jI a) :: st) w r := rb_cge (fun h => h1 ((jI_le hb ha).mp h)) (fun h => h2 (fun q => h ((jI_le hb ha).mpr q)))
theorem rj_cgt (ha : jr a) (hb : jr b) (h1 : b < a → ab_run B N tg lv st w = some r) (h2 : ¬ (b < a) → Rb B N k lv st w r) : Rb B N (o_cmp (fun x y => decide (y < x)) tg k) lv (.int (jI b) :: .int (jI a) :: st) w r := rb_cgt (fun h => h1 ((jI_lt hb ha).mp h)) (fun h => h2 (fun q => h ((jI_lt hb ha).mpr q)))
theorem rj_cle (ha : jr a) (hb : jr b) (h1 : a ≤ b → ab_run B N tg lv st w = some r) (h2 : ¬ (a ≤ b) → Rb B N k lv st w r) : Rb B N (o_cmp (fun x y => decide (x ≤ y)) tg k) lv (.int (jI b) :: .int (jI a) :: st) w r := rb_cle (fun h => h1 ((jI_le ha hb).mp h)) (fun h => h2 (fun q => h ((jI_le ha hb).mpr q)))
theorem rj_ieq (ha : jr a) (h1 : a = 0 → ab_run B N tg lv st w = some r) (h2 : ¬ (a = 0) → Rb B N k lv st w r) : Rb B N (o_if (fun x => decide (x = 0)) tg k) lv (.int (jI a) :: st) w r :=
  have j0 : jr 0 := ⟨by decide, by decide⟩
  rb_ieq (fun h => h1 ((jI_eq ha j0).mp h)) (fun h => h2 (fun q => h ((jI_eq ha j0).mpr q)))
theorem rj_ine (ha : jr a) (h1 : ¬ a = 0 → ab_run B N tg lv st w = some r) (h2 : ¬ (¬ a = 0) → Rb B N k lv st w r) : Rb B N (o_if (fun x => decide (¬ x = 0)) tg k) lv (.int (jI a) :: st) w r :=
  have j0 : jr 0 := ⟨by decide, by decide⟩
  rb_ine (fun h => h1 ((not_congr (jI_eq ha j0)).mp h)) (fun h => h2 (fun q => h ((not_congr (jI_eq ha j0)).mpr q)))
theorem rj_ilt (ha : jr a) (h1 : a < 0 → ab_run B N tg lv st w = some r) (h2 : ¬ (a < 0) → Rb B N k lv st w r) : Rb B N (o_if (fun x => decide (x < 0)) tg k) lv (.int (jI a) :: st) w r :=
  have j0 : jr 0 := ⟨by decide, by decide⟩
  rb_ilt (fun h => h1 ((jI_lt ha j0).mp h)) (fun h => h2 (fun q => h ((jI_lt ha j0).mpr q)))
theorem rj_ige (ha : jr a) (h1 : 0 ≤ a → ab_run B N tg lv st w = some r) (h2 : ¬ (0 ≤ a) → Rb B N k lv st w r) : Rb B N (o_if (fun x => decide (0 ≤ x)) tg k) lv (.int (jI a) :: st) w r :=
  have j0 : jr 0 := ⟨by decide, by decide⟩
  rb_ige (fun h => h1 ((jI_le j0 ha).mp h)) (fun h => h2 (fun q => h ((jI_le j0 ha).mpr q)))
theorem rj_ile (ha : jr a) (h1 : a ≤ 0 → ab_run B N tg lv st w = some r) (h2 : ¬ (a ≤ 0) → Rb B N k lv st w r) : Rb B N (o_if (fun x => decide (x ≤ 0)) tg k) lv (.int (jI a) :: st) w r :=
  have j0 : jr 0 := ⟨by decide, by decide⟩
  rb_ile (fun h => h1 ((jI_le ha j0).mp h)) (fun h => h2 (fun q => h ((jI_le ha j0).mpr q)))
end RJ
