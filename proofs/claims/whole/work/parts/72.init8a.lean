/-! the model's making -/
def K0 : Nat → EV := fun _ => (0, 0, 0, 0, 0, 0, 0)
def gs0 : Nat → GS := fun _ => (0, fun _ => 0, 0, 0, 0, 0, 0, 0, false)
def ts0 : Nat → TR := fun _ => (0, fun _ => 0, 0, 0)
def alv (l : List Nat) (f : Hm) : Prop := ∀ x ∈ l, ∃ e, f x = some e
theorem alv.up {l : List Nat} {f : Hm} {a : Nat} {e : va_E} (h : alv l f) : alv l (hm_up f a e) := fun x hx => by
  obtain ⟨y, hy⟩ := h x hx
  by_cases q : x = a
  · exact ⟨e, by rw [q]; exact hm_us⟩
  · exact ⟨y, (hm_un q).trans hy⟩
theorem alv.new {l : List Nat} {f : Hm} {a : Nat} {e : va_E} (h : alv l f) : alv (a :: l) (hm_up f a e) := fun x hx => by
  rcases List.mem_cons.mp hx with q | q
  · exact ⟨e, by rw [q]; exact hm_us⟩
  · exact h.up x q
theorem alv.not {l : List Nat} {f : Hm} {a : Nat} (h : alv l f) (ha : f a = none) : a ∉ l := fun hx => by
  obtain ⟨y, hy⟩ := h a hx
  rw [ha] at hy; cases hy
theorem hm_k.upG {S : Nat → Prop} {f g : Hm} {a : Nat} {e : va_E} (h : hm_k S f g) (ha : g a = none) : hm_k S f (hm_up g a e) := fun q x hq hx => (hm_un (hm_nn (h q x hq hx) ha)).trans (h q x hq hx)
theorem rI_of {l : List Nat} (h : l.Nodup) (hl : l.length = 28) : rI (fun k => l.getD (27 - k) 0) := by
  intro i j hi hj hij hq
  have hq2 : l.getD (27 - i) 0 = l.getD (27 - j) 0 := hq
  rw [List.getD_eq_getElem?_getD, List.getD_eq_getElem?_getD, List.getElem?_eq_getElem (by omega : 27 - i < l.length), List.getElem?_eq_getElem (by omega : 27 - j < l.length)] at hq2
  have hq2 : l[27 - i] = l[27 - j] := hq2
  have pw := List.pairwise_iff_getElem.mp h
  rcases Nat.lt_or_gt_of_ne (show 27 - i ≠ 27 - j by omega) with q | q
  · exact pw _ _ (by omega) (by omega) q hq2
  · exact pw _ _ (by omega) (by omega) q hq2.symm
theorem dfX8 : ∀ j, j < 46 → defaultValue (tyX8 j) = vp_V [.null, .null, .null, .null, .null, .null, .null, .null, .null, .null, .null, .null, .null, .null, .null, .null, .null, .null, .null, .null, .null, .null, .null, .null, .null, .null, .null, .null, .int 0, .int 0, .int 0, .int 0, .int 0, .int 0, .int 0, .int 0, .int 0, .int 0, .int 0, .int 0, .int 0, .int 0, .int 0, .int 0, .long 0, .long 0] j
  | 0, _ => rfl
  | 1, _ => rfl
  | 2, _ => rfl
  | 3, _ => rfl
  | 4, _ => rfl
  | 5, _ => rfl
  | 6, _ => rfl
  | 7, _ => rfl
  | 8, _ => rfl
  | 9, _ => rfl
  | 10, _ => rfl
  | 11, _ => rfl
  | 12, _ => rfl
  | 13, _ => rfl
  | 14, _ => rfl
  | 15, _ => rfl
  | 16, _ => rfl
  | 17, _ => rfl
  | 18, _ => rfl
  | 19, _ => rfl
  | 20, _ => rfl
  | 21, _ => rfl
  | 22, _ => rfl
  | 23, _ => rfl
  | 24, _ => rfl
  | 25, _ => rfl
  | 26, _ => rfl
  | 27, _ => rfl
  | 28, _ => rfl
  | 29, _ => rfl
  | 30, _ => rfl
  | 31, _ => rfl
  | 32, _ => rfl
  | 33, _ => rfl
  | 34, _ => rfl
  | 35, _ => rfl
  | 36, _ => rfl
  | 37, _ => rfl
  | 38, _ => rfl
  | 39, _ => rfl
  | 40, _ => rfl
  | 41, _ => rfl
  | 42, _ => rfl
  | 43, _ => rfl
  | 44, _ => rfl
  | 45, _ => rfl
  | j + 46, h => absurd h (by omega)
