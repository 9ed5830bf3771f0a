/-! ===== running by rules, over whole numbers ===== -/
section RJ
variable {B : List ab_K} {N : Nat} {k : ab_K} {lv : ab_L} {st : List Value} {w w' : ab_W} {r : Option Value × ab_W} {tg i t : Nat} {a b : Int} {xs : List Int32}
theorem rj_push {z : Int} {v : Int32} (hv : jI z = v) (h : Rb B N k lv (.int (jI z) :: st) w r) : Rb B N (o_push (.int v) k) lv st w r := by subst hv; exact h
theorem rj_add {z : Int} (hz : a + b = z) (h : Rb B N k lv (.int (jI z) :: st) w r) : Rb B N (o_bin (fun x y => x + y) k) lv (.int (jI b) :: .int (jI a) :: st) w r := by subst hz; exact rb_binL (jI_add a b) h
theorem rj_sub {z : Int} (hz : a - b = z) (h : Rb B N k lv (.int (jI z) :: st) w r) : Rb B N (o_bin (fun x y => x - y) k) lv (.int (jI b) :: .int (jI a) :: st) w r := by subst hz; exact rb_binL (jI_sub a b) h
theorem rj_mul {z : Int} (hz : a * b = z) (h : Rb B N k lv (.int (jI z) :: st) w r) : Rb B N (o_bin (fun x y => x * y) k) lv (.int (jI b) :: .int (jI a) :: st) w r := by subst hz; exact rb_binL (jI_mul a b) h
theorem rj_div {z : Int} (h0 : 0 ≤ a) (ha : jr a) (hb0 : 0 < b) (hb : jr b) (hz : a / b = z) (h : Rb B N k lv (.int (jI z) :: st) w r) : Rb B N (o_div (fun x y => x / y) k) lv (.int (jI b) :: .int (jI a) :: st) w r := by
  subst hz
  refine rb_divL (fun e => ?_) (jI_div h0 ha hb0 hb) h
  have e2 : (0 : Int32) = jI 0 := rfl
  rw [e2, jI_eq hb ⟨by decide, by decide⟩] at e
  omega
theorem rj_rem {z : Int} (h0 : 0 ≤ a) (ha : jr a) (hb0 : 0 < b) (hb : jr b) (hz : a % b = z) (h : Rb B N k lv (.int (jI z) :: st) w r) : Rb B N (o_div (fun x y => x - x / y * y) k) lv (.int (jI b) :: .int (jI a) :: st) w r := by
  subst hz
  refine rb_divL (fun e => ?_) (jI_rem h0 ha hb0 hb) h
  have e2 : (0 : Int32) = jI 0 := rfl
  rw [e2, jI_eq hb ⟨by decide, by decide⟩] at e
  omega
theorem rj_ceq (ha : jr a) (hb : jr b) (h1 : a = b → ab_run B N tg lv st w = some r) (h2 : ¬ (a = b) → Rb B N k lv st w r) : Rb B N (o_cmp (fun x y => decide (x = y)) tg k) lv (.int (jI b) :: .int (jI a) :: st) w r := rb_ceq (fun h => h1 ((jI_eq ha hb).mp h)) (fun h => h2 (fun q => h ((jI_eq ha hb).mpr q)))
theorem rj_cne (ha : jr a) (hb : jr b) (h1 : ¬ a = b → ab_run B N tg lv st w = some r) (h2 : ¬ (¬ a = b) → Rb B N k lv st w r) : Rb B N (o_cmp (fun x y => decide (¬ x = y)) tg k) lv (.int (jI b) :: .int (jI a) :: st) w r := rb_cne (fun h => h1 ((not_congr (jI_eq ha hb)).mp h)) (fun h => h2 (fun q => h ((not_congr (jI_eq ha hb)).mpr q)))
theorem rj_clt (ha : jr a) (hb : jr b) (h1 : a < b → ab_run B N tg lv st w = some r) (h2 : ¬ (a < b) → Rb B N k lv st w r) : Rb B N (o_cmp (fun x y => decide (x < y)) tg k) lv (.int (jI b) :: .int (jI a) :: st) w r := rb_clt (fun h => h1 ((jI_lt ha hb).mp h)) (fun h => h2 (fun q => h ((jI_lt ha hb).mpr q)))
theorem rj_cge (ha : jr a) (hb : jr b) (h1 : b ≤ a → ab_run B N tg lv st w = some r) (h2 : ¬ (b ≤ a) → Rb B N k lv st w r) : Rb B N (o_cmp (fun x y => decide (y ≤ x)) tg k) lv (.int (jI b) :: .int (jI a) :: st) w r := rb_cge (fun h => h1 ((jI_le hb ha).mp h)) (fun h => h2 (fun q => h ((jI_le hb ha).mpr q)))
theorem rj_cgt (ha : jr a) (hb : jr b) (h1 : b < a → ab_run B N tg lv st w = some r) (h2 : ¬ (b < a) → Rb B N k lv st w r) : Rb B N (o_cmp (fun x y => decide (y < x)) tg k) lv (.int (jI b) :: .int (jI a) :: st) w r := rb_cgt (fun h => h1 ((jI_lt hb ha).mp h)) (fun h => h2 (fun q => h ((jI_lt hb ha).mpr q)))
theorem rj_cle (ha : jr a) (hb : jr b) (h1 : a ≤ b → ab_run B N tg lv st w = some r) (h2 : ¬ (a ≤ b) → Rb B N k lv st w r) : Rb B N (o_cmp (fun x y => decide (x ≤ y)) tg k) lv (.int (jI b) :: .int (jI a) :: st) w r := rb_cle (fun h => h1 ((jI_le ha hb).mp h)) (fun h => h2 (fun q => h ((jI_le ha hb).mpr q)))
theorem rj_ieq (ha : jr a) (h1 : a = 0 → ab_run B N tg lv st w = some r) (h2 : ¬ (a = 0) → Rb B N k lv st w r) : Rb B N (o_if (fun x => decide (x = 0)) tg k) lv (.int (jI a) :: st) w r :=
  have j0 : jr 0 := ⟨by decide, by decide⟩
  rb_ieq (fun h => h1 ((jI_eq ha j0).mp h)) (fun h => h2 (fun q => h ((jI_eq ha j0).mpr q)))
theorem rj_ine (ha : jr a) (h1 : ¬ a = 0 → ab_run B N tg lv st w = some r) (h2 : ¬ (¬ a = 0) → Rb B N k lv st w r) : Rb B N (o_if (fun x => decide (¬ x = 0)) tg k) lv (.int (jI a) :: st) w r :=
  have j0 : jr 0 := ⟨by decide, by decide⟩
  rb_ine (fun h => h1 ((not_congr (jI_eq ha j0)).mp h)) (fun h => h2 (fun q => h ((not_congr (jI_eq ha j0)).mpr q)))
theorem rj_ilt (ha : jr a) (h1 : a < 0 → ab_run B N tg lv st w = some r) (h2 : ¬ (a < 0) → Rb B N k lv st w r) : Rb B N (o_if (fun x => decide (x < 0)) tg k) lv (.int (jI a) :: st) w r :=
  have j0 : jr 0 := ⟨by decide, by decide⟩
  rb_ilt (fun h => h1 ((jI_lt ha j0).mp h)) (fun h => h2 (fun q => h ((jI_lt ha j0).mpr q)))
theorem rj_ige (ha : jr a) (h1 : 0 ≤ a → ab_run B N tg lv st w = some r) (h2 : ¬ (0 ≤ a) → Rb B N k lv st w r) : Rb B N (o_if (fun x => decide (0 ≤ x)) tg k) lv (.int (jI a) :: st) w r :=
  have j0 : jr 0 := ⟨by decide, by decide⟩
  rb_ige (fun h => h1 ((jI_le j0 ha).mp h)) (fun h => h2 (fun q => h ((jI_le j0 ha).mpr q)))
theorem rj_igt (ha : jr a) (h1 : 0 < a → ab_run B N tg lv st w = some r) (h2 : ¬ (0 < a) → Rb B N k lv st w r) : Rb B N (o_if (fun x => decide (0 < x)) tg k) lv (.int (jI a) :: st) w r :=
  have j0 : jr 0 := ⟨by decide, by decide⟩
  rb_igt (fun h => h1 ((jI_lt j0 ha).mp h)) (fun h => h2 (fun q => h ((jI_lt j0 ha).mpr q)))
theorem rj_ile (ha : jr a) (h1 : a ≤ 0 → ab_run B N tg lv st w = some r) (h2 : ¬ (a ≤ 0) → Rb B N k lv st w r) : Rb B N (o_if (fun x => decide (x ≤ 0)) tg k) lv (.int (jI a) :: st) w r :=
  have j0 : jr 0 := ⟨by decide, by decide⟩
  rb_ile (fun h => h1 ((jI_le ha j0).mp h)) (fun h => h2 (fun q => h ((jI_le ha j0).mpr q)))
theorem rj_iald {f : Nat → Int} {n c : Nat} {z : Int} (hx : ab_ia w c t = some xs) (hf : ∀ i : Nat, i < n → xs[i]? = some (jI (f i))) (h0 : 0 ≤ a) (hn : a < n) (hn2 : n ≤ 1000000) (hz : f a.toNat = z) (h : Rb B N k lv (.int (jI z) :: st) w r) : Rb B N (o_iald t k) lv (.int (jI a) :: .ref c :: st) w r := by
  subst hz
  have hr : jr a := ⟨by omega, by omega⟩
  exact rb_iald hx (jI_nn h0 hr) (by rw [jI_clamp h0 hr]; exact hf _ (by omega)) h
theorem rj_iast {c : Nat} {z : Int} (hx : ab_ia w c t = some xs) (h0 : 0 ≤ a) (hn : a < xs.length) (hn2 : xs.length ≤ 1000000) (hw : w.set c (.inr (.inl (t, xs.set a.toNat (jI z)))) = w') (h : Rb B N k lv st w' r) : Rb B N (o_iast t (fun x => x) k) lv (.int (jI z) :: .int (jI a) :: .ref c :: st) w r := by
  have hr : jr a := ⟨by omega, by omega⟩
  refine rb_iast hx (jI_nn h0 hr) (by rw [jI_clamp h0 hr]; omega) ?_ h
  rw [jI_clamp h0 hr]
  exact hw
theorem rj_iinc {n : Int32} {z q : Int} {lv' : ab_L} (hv : lv[i]? = some (some (.int (jI a)))) (hn : jI q = n) (hz : a + q = z) (hl : ab_st1 lv i (.int (jI z)) = lv') (h : Rb B N k lv' st w r) : Rb B N (o_iinc i n k) lv st w r := by
  subst hn hz hl
  exact rb_iinc hv (by rw [jI_add]) h
end RJ
