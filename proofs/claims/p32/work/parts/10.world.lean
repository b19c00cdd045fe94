/-! THE CLOSED WORLD: all cells that the run has made are a map (Hm); a contract says which map comes of which. What lies below gB is never written. -/
abbrev Hm : Type := Nat → Option va_E
def hm_up (f : Hm) (a : Nat) (e : va_E) : Hm := fun q => if q = a then some e else f q
theorem hm_us {f : Hm} {a : Nat} {e : va_E} : hm_up f a e a = some e := if_pos rfl
theorem hm_un {f : Hm} {a b : Nat} {e : va_E} (h : b ≠ a) : hm_up f a e b = f b := if_neg h
theorem hm_uu {f : Hm} {a : Nat} {e e' : va_E} : hm_up (hm_up f a e) a e' = hm_up f a e' := by
  funext q
  by_cases h : q = a
  · simp [hm_up, h]
  · simp [hm_up, h]
theorem hm_ne {f : Hm} {a b : Nat} {e e' : va_E} (h1 : f a = some e) (h2 : f b = some e') (hn : e ≠ e') : a ≠ b := fun h => hn (Option.some.inj (h1.symm.trans (by rw [h]; exact h2)))
theorem hm_nn {f : Hm} {a b : Nat} {e : va_E} (h1 : f a = some e) (h2 : f b = none) : a ≠ b := fun h => by rw [h, h2] at h1; cases h1
/-- classes and slots; array classes (0 byte, 1 long, 2 char, 3 Entry, 4 Object; 6 the mirror's address); the first address of the run's own cells; ArrayList's empty array; the heap below; where the static tables lie (0 g, 1 pow10, 2 ones, 3 tens; 4 the text 0.0, 5 its bytes); what g holds -/
abbrev Gm : Type := va_G × (Nat → ClassId) × Nat × Nat × Heap × (Nat → Nat) × (Nat → Value)
def gD (Γ : Gm) : va_G := Γ.1
def gC (Γ : Gm) : Nat → ClassId := Γ.2.1
def gB (Γ : Gm) : Nat := Γ.2.2.1
def gE (Γ : Gm) : Nat := Γ.2.2.2.1
def gO (Γ : Gm) : Heap := Γ.2.2.2.2.1
def gN (Γ : Gm) : Nat → Nat := Γ.2.2.2.2.2.1
def gV (Γ : Gm) : Nat → Value := Γ.2.2.2.2.2.2
def gA (Γ : Gm) : Nat → Prop := fun q => gB Γ ≤ q
def gT (Γ : Gm) : List (ClassId × FieldType) := [(gC Γ 0, .byte), (gC Γ 1, .long), (gC Γ 2, .char), (gC Γ 3, .object "TileWarden$Entry"), (gC Γ 4, .object "java/lang/Object")]
abbrev hcl : List vw_C := [(RJx4a65c, TJx4a65c, 3), (RX1, TX1, 4), (RX2, TX2, 7), (RX3, TX3, 10), (RX4, TX4, 3), (RX5, TX5, 4), (RX6, TX6, 4), (RX7, TX7, 12), (RX8, TX8, 1), (RJ0, TJ0, 4), (RJ4, TJ4, 4), (RJx40b00, TJx40b00, 2), (RJx4497a, TJx4497a, 2)]
abbrev eB (Γ : Gm) (n : Nat) (f : Nat → Int32) : va_E := .inl (gC Γ 0, n, .inl f)
abbrev eK (Γ : Gm) (n : Nat) (f : Nat → Int32) : va_E := .inl (gC Γ 2, n, .inl f)
abbrev eN (Γ : Gm) (n : Nat) (f : Nat → Option Nat) : va_E := .inl (gC Γ 3, n, .inr (.inr (.inr (.inr f))))
abbrev eO (Γ : Gm) (n : Nat) (f : Nat → Option Nat) : va_E := .inl (gC Γ 4, n, .inr (.inr (.inr (.inr f))))
abbrev eR (ci : Nat) (fs : List Value) : va_E := .inr (ci, fs)
/-- a cell of the map: as the map says; ArrayList's empty array, which the run didn't make, is told by its class and size alone -/
def hm_at (Γ : Gm) (a : Nat) (e : va_E) (H : Heap) : Prop := (a ≠ gE Γ → va_at (gD Γ) hcl (a, e) H) ∧ (a = gE Γ → ∃ ce : Cell, H[a]? = some ce ∧ ce.cls = gC Γ 4 ∧ ce.vm.isStatics = false ∧ ce.slots.size.toInt32 = 0)
theorem hm_at.of {Γ : Gm} {a : Nat} {e : va_E} {H : Heap} (hn : a ≠ gE Γ) (h : va_at (gD Γ) hcl (a, e) H) : hm_at Γ a e H := ⟨fun _ => h, fun z => absurd z hn⟩
theorem hm_at.kept {Γ : Gm} {a : Nat} {e : va_E} {H H1 : Heap} (h : hm_at Γ a e H) (hq : H1[a]? = H[a]?) : hm_at Γ a e H1 :=
  ⟨fun hn => va_at.kept (h.1 hn) hq, fun z => by
    obtain ⟨ce, h1, h2⟩ := h.2 z
    exact ⟨ce, hq.trans h1, h2⟩⟩
theorem hm_at.lt {Γ : Gm} {a : Nat} {e : va_E} {H : Heap} (h : hm_at Γ a e H) : a < H.size := by
  by_cases z : a = gE Γ
  · obtain ⟨ce, h1, -⟩ := h.2 z
    exact (Array.getElem?_eq_some_iff.mp h1).1
  · exact va_at.lt (h.1 z)
/-- the run's cells are those of the map -/
def hm_H (Γ : Gm) (f : Hm) (H : Heap) : Prop := (∀ (a : Nat) (e : va_E), f a = some e → hm_at Γ a e H ∧ (a = gE Γ ∨ gB Γ ≤ a)) ∧ f (gE Γ) = some (eO Γ 0 (fun _ => none)) ∧ gE Γ < gB Γ
/-- what lies below is as it was -/
def hm_O (Γ : Gm) (H : Heap) : Prop := gB Γ ≤ H.size ∧ ∀ q : Nat, q < gB Γ → H[q]? = (gO Γ)[q]?
theorem hm_O.step {Γ : Gm} {H H1 : Heap} {locs : List Loc} (h : hm_O Γ H) (hS : va_S (gA Γ) H H1 locs) : hm_O Γ H1 :=
  ⟨Nat.le_trans h.1 hS.1, fun q hq => (hS.2.1 q (Nat.lt_of_lt_of_le hq h.1) (fun z => absurd z (Nat.not_le.mpr hq))).trans (h.2 q hq)⟩
theorem hm_one {Γ : Gm} {f : Hm} {H : Heap} {a : Nat} {e : va_E} (h : hm_H Γ f H) (ha : f a = some e) (hn : e ≠ eO Γ 0 (fun _ => none)) : va_P (gD Γ) hcl [(a, e)] H := by
  intro k q hk
  have hz : k < 1 := (List.getElem?_eq_some_iff.mp hk).1
  have h0 : k = 0 := by omega
  subst h0
  cases hk
  exact (h.1 a e ha).1.1 (fun q => hn (by rw [q, h.2.1] at ha; exact (Option.some.inj ha).symm))
theorem hm_lt {Γ : Gm} {f : Hm} {H : Heap} {a : Nat} {e : va_E} (h : hm_H Γ f H) (ha : f a = some e) : a < H.size := (h.1 a e ha).1.lt
theorem hm_ge {Γ : Gm} {f : Hm} {H : Heap} {a ci : Nat} {fs : List Value} (h : hm_H Γ f H) (ha : f a = some (eR ci fs)) : gB Γ ≤ a := by
  rcases (h.1 a _ ha).2 with q | q
  · rw [q, h.2.1] at ha; cases ha
  · exact q
/-- the map's own cells in a row -/
def hm_ws (f : Hm) (b n : Nat) : va_W := (List.range n).filterMap (fun q => if b ≤ q then (f q).map (fun e => (q, e)) else none)
theorem hm_ws_mem {f : Hm} {b n : Nat} {q : Nat × va_E} : q ∈ hm_ws f b n ↔ q.1 < n ∧ b ≤ q.1 ∧ f q.1 = some q.2 := by
  unfold hm_ws
  rw [List.mem_filterMap]
  constructor
  · rintro ⟨a, ha, h⟩
    by_cases hb : b ≤ a
    · rw [if_pos hb] at h
      cases hf : f a with
      | none => rw [hf] at h; cases h
      | some e =>
        rw [hf] at h
        cases h
        exact ⟨List.mem_range.mp ha, hb, hf⟩
    · rw [if_neg hb] at h; cases h
  · rintro ⟨h1, h2, h3⟩
    refine ⟨q.1, List.mem_range.mpr h1, ?_⟩
    rw [if_pos h2, h3]
    rfl
theorem hm_ws_pw (f : Hm) (b n : Nat) : (hm_ws f b n).Pairwise (fun p q => p.1 < q.1) := by
  unfold hm_ws
  refine List.Pairwise.filterMap _ ?_ (List.pairwise_lt_range (n := n))
  intro x y hxy p hp q hq
  by_cases h1 : b ≤ x
  · by_cases h2 : b ≤ y
    · simp only [if_pos h1, Option.mem_def] at hp
      simp only [if_pos h2, Option.mem_def] at hq
      cases hx : f x with
      | none => rw [hx] at hp; cases hp
      | some ex =>
        cases hy : f y with
        | none => rw [hy] at hq; cases hq
        | some ey =>
          rw [hx] at hp; rw [hy] at hq
          cases hp; cases hq
          exact hxy
    · simp only [if_neg h2] at hq; cases hq
  · simp only [if_neg h1] at hp; cases hp
theorem hm_ws_ix {f : Hm} {b n i j : Nat} {p q : Nat × va_E} (hi : (hm_ws f b n)[i]? = some p) (hj : (hm_ws f b n)[j]? = some q) (h : p.1 = q.1) : i = j := by
  have pw := List.pairwise_iff_getElem.mp (hm_ws_pw f b n)
  obtain ⟨li, ei⟩ := List.getElem?_eq_some_iff.mp hi
  obtain ⟨lj, ej⟩ := List.getElem?_eq_some_iff.mp hj
  rcases Nat.lt_trichotomy i j with g | g | g
  · have := pw i j li lj g
    rw [ei, ej] at this; omega
  · exact g
  · have := pw j i lj li g
    rw [ei, ej] at this; omega
theorem hm_ws_P {Γ : Gm} {f : Hm} {H : Heap} (h : hm_H Γ f H) : va_P (gD Γ) hcl (hm_ws f (gB Γ) H.size) H := by
  intro k q hk
  have hm := hm_ws_mem.mp (List.mem_of_getElem? hk)
  exact (h.1 q.1 q.2 hm.2.2).1.1 (fun z => by have := h.2.2; have := hm.2.1; omega)
theorem hm_ws_D {Γ : Gm} {f : Hm} {n : Nat} : va_D (gA Γ) (hm_ws f (gB Γ) n) := by
  refine ⟨fun i j p q hi hj h => hm_ws_ix hi hj h, fun k q hk => ?_⟩
  exact (hm_ws_mem.mp (List.mem_of_getElem? hk)).2.1
theorem hm_ws_at {Γ : Gm} {f : Hm} {H : Heap} (h : hm_H Γ f H) {a : Nat} {e : va_E} (ha : f a = some e) (hb : gB Γ ≤ a) : ∃ k : Nat, (hm_ws f (gB Γ) H.size)[k]? = some (a, e) :=
  List.getElem?_of_mem (hm_ws_mem.mpr ⟨hm_lt h ha, hb, ha⟩)
/-- behind a store of a kit's row -/
theorem hm_ws_set {Γ : Gm} {f : Hm} {H0 H H1 : Heap} {locs locs1 : List Loc} {k a : Nat} {e e' : va_E} (h : hm_H Γ f H) (hO : hm_O Γ H0) (hS : va_S (gA Γ) H0 H locs) (hk : (hm_ws f (gB Γ) H.size)[k]? = some (a, e)) (hP : va_P (gD Γ) hcl ((hm_ws f (gB Γ) H.size).set k (a, e')) H1) (hS1 : va_S (gA Γ) H0 H1 locs1) : hm_H Γ (hm_up f a e') H1 := by
  have hl := (List.getElem?_eq_some_iff.mp hk).1
  have hb : gB Γ ≤ a := (hm_ws_mem.mp (List.mem_of_getElem? hk)).2.1
  have hea : gE Γ ≠ a := fun q => by have := h.2.2; omega
  refine ⟨fun q x hq => ?_, by rw [hm_un hea]; exact h.2.1, h.2.2⟩
  by_cases hqa : q = a
  · subst hqa
    rw [hm_us] at hq
    cases hq
    exact ⟨.of (Ne.symm hea) (hP k _ (by rw [List.getElem?_set_self hl])), Or.inr hb⟩
  · rw [hm_un hqa] at hq
    obtain ⟨g1, g2⟩ := h.1 q x hq
    refine ⟨?_, g2⟩
    rcases g2 with g2 | g2
    · refine g1.kept ?_
      have hq0 : q < H0.size := by have := h.2.2; have := hO.1; omega
      have hnA : ¬ gA Γ q := by have := h.2.2; unfold gA; omega
      show H1[q]? = H[q]?
      rw [hS1.2.1 q hq0 hnA, hS.2.1 q hq0 hnA]
    · obtain ⟨j, hj⟩ := hm_ws_at h hq g2
      have hjk : j ≠ k := fun z => by
        subst z
        rw [hj] at hk
        cases hk
        exact hqa rfl
      exact .of (fun z => by have := h.2.2; omega) (hP j _ (by rw [List.getElem?_set_ne (Ne.symm hjk)]; exact hj))
/-- behind a making of a kit's row -/
theorem hm_ws_app {Γ : Gm} {f : Hm} {H0 H H1 : Heap} {locs locs1 : List Loc} {a : Nat} {e' : va_E} (h : hm_H Γ f H) (hO : hm_O Γ H0) (hS : va_S (gA Γ) H0 H locs) (hP : va_P (gD Γ) hcl (hm_ws f (gB Γ) H.size ++ [(a, e')]) H1) (hD : va_D (gA Γ) (hm_ws f (gB Γ) H.size ++ [(a, e')])) (hS1 : va_S (gA Γ) H0 H1 locs1) : hm_H Γ (hm_up f a e') H1 ∧ f a = none ∧ gB Γ ≤ a := by
  have hlast : (hm_ws f (gB Γ) H.size ++ [(a, e')])[(hm_ws f (gB Γ) H.size).length]? = some (a, e') := by rw [List.getElem?_append_right (Nat.le_refl _), Nat.sub_self]; rfl
  have hb : gB Γ ≤ a := hD.2 _ _ hlast
  have hea : gE Γ ≠ a := fun q => by have := h.2.2; omega
  have hn : f a = none := by
    cases hf : f a with
    | none => rfl
    | some x =>
      obtain ⟨j, hj⟩ := hm_ws_at h hf hb
      have hl := (List.getElem?_eq_some_iff.mp hj).1
      have := hD.1 j _ (a, x) (a, e') (by rw [List.getElem?_append_left hl]; exact hj) hlast rfl
      omega
  refine ⟨⟨fun q x hq => ?_, by rw [hm_un hea]; exact h.2.1, h.2.2⟩, hn, hb⟩
  by_cases hqa : q = a
  · subst hqa
    rw [hm_us] at hq
    cases hq
    exact ⟨.of (Ne.symm hea) (hP _ _ hlast), Or.inr hb⟩
  · rw [hm_un hqa] at hq
    obtain ⟨g1, g2⟩ := h.1 q x hq
    refine ⟨?_, g2⟩
    rcases g2 with g2 | g2
    · refine g1.kept ?_
      have hq0 : q < H0.size := by have := h.2.2; have := hO.1; omega
      have hnA : ¬ gA Γ q := by have := h.2.2; unfold gA; omega
      show H1[q]? = H[q]?
      rw [hS1.2.1 q hq0 hnA, hS.2.1 q hq0 hnA]
    · obtain ⟨j, hj⟩ := hm_ws_at h hq g2
      have hl := (List.getElem?_eq_some_iff.mp hj).1
      exact .of (fun z => by have := h.2.2; omega) (hP j _ (by rw [List.getElem?_append_left hl]; exact hj))
