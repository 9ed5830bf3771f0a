theorem te_s2 {t u v : TS} {c0 c : PCu} {T0 T' : Nat → Int} {p k w p' k' w' pp kk ww a' : Int} {S' O' : List Int} (hT0 : T0 0 = 0) (wc : WC (tI t 68 9) c) (rc : RcT t c0 T0 u c p k w) (e : sy1 (tA t 75) (tI t 68 9) (tI t 68 15) c (stR u) (coR u) (tI u 68 20) w p k (tA u 80) = .inl (stC (tA t 75) (tI t 68 9) c, S', O', a', ww, pp, kk, T')) (hw : w' = ww) (hp : p' = pp) (hk : k' = kk) (cv : CRx v (stC (tA t 75) (tI t 68 9) c)) (hs : stR v = S') (ho : coR v = O') (ha : tI v 68 20 = a') (hT : tA v 80 = T') : TEp t c0 v p' k' w' := by
  rw [hw]
  exact te_st hT0 wc rc e hp hk cv hs ho ha hT
def ImpP (p q : Prop) : Prop := p → q
theorem ImpP.go {p q : Prop} (h : ImpP p q) : p → q := h
def NotP (p : Prop) : Prop := ¬ p
