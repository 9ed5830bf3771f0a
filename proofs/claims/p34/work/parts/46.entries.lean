/-! ===== the methods' entries ===== -/
abbrev FU : Nat := 1000000
theorem EX_run {d i nL : Nat} {Bk : ab_F → List ab_K} {As : List Value} {w : ab_W} {r : Option Value × ab_W} (hB : ab_Bf i = Bk) (hL : (ab_Mf i).2.2.1 = nL) (h1 : As.all (fun v => v.category == 1) = true) (h2 : As.length ≤ nL) (h : ab_run (Bk (EX FU d)) FU 0 (ab_ent As nL) [] w = some r) : EX FU (d + 1) i As w = some r := by
  subst hB hL
  show (if _ then _ else _) = _
  rw [if_pos ⟨h1, h2⟩]
  exact h
