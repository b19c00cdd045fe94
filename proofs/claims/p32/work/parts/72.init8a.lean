theorem hm_k.upG {S : Nat → Prop} {f g : Hm} {a : Nat} {e : va_E} (h : hm_k S f g) (ha : g a = none) : hm_k S f (hm_up g a e) := fun q x hq hx => (hm_un (hm_nn (h q x hq hx) ha)).trans (h q x hq hx)
