/-! pins and making room go alike -/
theorem KInv.keep {kp c e : Nat} {K : Nat → EV} {y : EV} (h : KInv kp K c) (h1 : y.1 = (K e).1) (h2 : y.2.1 = (K e).2.1) (h3 : y.2.2.1 = (K e).2.2.1) (hu : y.2.2.2.2.2.1 = (K e).2.2.2.2.2.1) : KInv kp (setK K e y) c := by
  obtain ⟨g1, g2, g3⟩ := h
  have k : ∀ j, (setK K e y j).1 = (K j).1 ∧ (setK K e y j).2.1 = (K j).2.1 ∧ (setK K e y j).2.2.1 = (K j).2.2.1 ∧ (setK K e y j).2.2.2.2.2.1 = (K j).2.2.2.2.2.1 := fun j => by
    by_cases q : j = e
    · rw [q, setK_s]; exact ⟨h1, h2, h3, hu⟩
    · rw [setK_n q]; exact ⟨rfl, rfl, rfl, rfl⟩
  refine ⟨fun a ha => ?_, fun a b ha hb hab => ?_, fun a b ha hb e1 e2 e3 => ?_⟩
  · rw [(k a).2.2.2]; exact g1 a ha
  · rw [(k a).2.2.2, (k b).2.2.2] at hab; exact g2 a b ha hb hab
  · rw [(k a).1, (k b).1] at e1
    rw [(k a).2.1, (k b).2.1] at e2
    rw [(k a).2.2.1, (k b).2.2.1] at e3
    exact g3 a b ha hb e1 e2 e3
/-- every row's and every slot's pins by the same rule, which leaves none none -/
theorem RelS.map {σ : Nat → Nat} {n kp : Nat} {K E : Nat → EV} (h : RelS σ n kp K E) (p : Int32 → Int32) (hp : p 0 = 0) {K' E' : Nat → EV} (hK : ∀ a, a < kp → K' a = setP (K a) (p (K a).2.2.2.2.2.2)) (hE : ∀ i, i < n → E' i = setP (E i) (p (E i).2.2.2.2.2.2)) : RelS σ n kp K' E' := by
  obtain ⟨h1, h2, h3, h4⟩ := h
  refine ⟨fun a ha => ?_, h2, fun i hi hd => ?_, fun i hi hd => ?_⟩
  · obtain ⟨g1, g2⟩ := h1 a ha
    refine ⟨g1, ?_⟩
    rw [hK a ha, hE _ g1]
    exact ⟨g2.1, by unfold setP; rw [g2.2.1], g2.2.2⟩
  · rw [hE i hi] at hd
    exact h3 i hi hd
  · rw [hE i hi] at hd ⊢
    show p _ = 0
    rw [h4 i hi hd, hp]
theorem KInv.map {kp c : Nat} {K K' : Nat → EV} (h : KInv kp K c) (p : Int32 → Int32) (hK : ∀ a, a < kp → K' a = setP (K a) (p (K a).2.2.2.2.2.2)) : KInv kp K' c := by
  obtain ⟨g1, g2, g3⟩ := h
  refine ⟨fun a ha => ?_, fun a b ha hb hab => ?_, fun a b ha hb e1 e2 e3 => ?_⟩
  · rw [hK a ha]; exact g1 a ha
  · rw [hK a ha, hK b hb] at hab; exact g2 a b ha hb hab
  · rw [hK a ha, hK b hb] at e1 e2 e3
    exact g3 a b ha hb e1 e2 e3
abbrev pnB (K : Nat → EV) : Nat → Bool := fun j => decide ((K j).2.2.2.2.2.2 ≠ 0)
theorem cnt_pins {σ : Nat → Nat} {n kp : Nat} {K E : Nat → EV} (h : RelS σ n kp K E) : cntP (pnB E) n = cntP (pnB K) kp := by
  obtain ⟨h1, h2, h3, h4⟩ := h
  rw [cnt_rel (kp := kp) (n := n) (σ := σ) (Q := pnB E) (fun a ha => (h1 a ha).1) h2 (fun i hi hq => h3 i hi (fun z => (of_decide_eq_true hq) (h4 i hi z)))]
  exact cntP_congr (fun a ha => by
    show decide ((E (σ a)).2.2.2.2.2.2 ≠ 0) = decide ((K a).2.2.2.2.2.2 ≠ 0)
    rw [(h1 a ha).2.2.1])
theorem cntP_all {P : Nat → Bool} : ∀ {n : Nat}, (∀ i, i < n → P i = true) → cntP P n = n
  | 0, _ => rfl
  | n + 1, h => by
    unfold cntP
    rw [cntP_all (n := n) (fun i hi => h i (by omega)), h n (by omega)]
    rfl
theorem cnt_drop {kp o : Nat} {K : Nat → EV} (ho : o < kp) (hp : (K o).2.2.2.2.2.2 = 0) : cntP (pnB (setK K o (K (kp - 1)))) (kp - 1) = cntP (pnB K) kp := by
  obtain ⟨k, rfl⟩ : ∃ k, kp = k + 1 := ⟨kp - 1, by omega⟩
  rw [Nat.add_sub_cancel]
  have hof : pnB K o = false := decide_eq_false (fun q => q hp)
  have hk1 : cntP (pnB K) (k + 1) = cntP (pnB K) k + (if pnB K k = true then 1 else 0) := rfl
  rw [hk1]
  by_cases q : o = k
  · subst q
    rw [hof, cntP_congr (P := pnB (setK K o (K o))) (Q := pnB K) (n := o) (fun i hi => by show decide _ = decide _; rw [setK_n (by omega)])]
    rfl
  · rw [cntP_off (P := pnB (setK K o (K k))) (k := o) (n := k) (by omega), cntP_off (P := pnB K) (k := o) (n := k) (by omega), hof]
    have e1 : pnB (setK K o (K k)) o = pnB K k := by show decide _ = decide _; rw [setK_s]
    rw [e1, cntP_congr (P := fun i => pnB (setK K o (K k)) i && !decide (i = o)) (Q := fun i => pnB K i && !decide (i = o)) (n := k) (fun i hi => by
      by_cases z : i = o
      · rw [decide_eq_true z]; simp
      · show (decide _ && _) = (decide _ && _)
        rw [setK_n z])]
    simp
def dropMK : Nat → (Nat → EV) × Nat → (Nat → EV) × Nat
  | 0, q => q
  | k + 1, q => match oldM q.1 q.2 with
    | none => q
    | some o => dropMK k (setK q.1 o (q.1 (q.2 - 1)), q.2 - 1)
theorem drop_rel {c rr : Nat} : ∀ {k kp : Nat} {σ : Nat → Nat} {K E : Nat → EV}, RelS σ 64 kp K E → KInv kp K c → kp ≤ 64 → rr + k ≤ kp → cntP (pnB K) kp ≤ rr → (∀ j, j < 64 → eok (E j)) → (∀ a, a < kp → mok (K a)) →
    ∃ σ', RelS σ' 64 (kp - k) (dropMK k (K, kp)).1 (dropK 64 k (E, nI kp)).1 ∧ KInv (kp - k) (dropMK k (K, kp)).1 c ∧ (dropMK k (K, kp)).2 = kp - k ∧ (dropK 64 k (E, nI kp)).2 = nI (kp - k) ∧ (∀ j, j < 64 → eok ((dropK 64 k (E, nI kp)).1 j)) ∧ (∀ a, a < kp - k → mok ((dropMK k (K, kp)).1 a))
  | 0, kp, σ, K, E, h, hi, _, _, _, he, hm => ⟨σ, h, hi, rfl, rfl, he, hm⟩
  | k + 1, kp, σ, K, E, h, hi, h64, hk, hc, he, hm => by
    rcases h.old hi.2.1 with ⟨o1, o2⟩ | ⟨a, ha, o1, o2, o3⟩
    · exfalso
      have := cntP_all (P := pnB K) (n := kp) (fun i hi => decide_eq_true (oldM_nspec o1 i hi))
      omega
    · have hpa := (oldM_spec o1).1
      have eM : dropMK (k + 1) (K, kp) = dropMK k (setK K a (K (kp - 1)), kp - 1) := by rw [dropMK, o1]
      have eD : drC 64 (E, nI kp) = (updE E (σ a) (setD (E (σ a)) 0), nI (kp - 1)) := by
        unfold drC
        rw [o2]
        show (_, nI kp - 1) = _
        rw [show (1 : Int32) = nI 1 from rfl, nI_sub_ge (by omega) (by omega)]
      have eE : dropK 64 (k + 1) (E, nI kp) = dropK 64 k (updE E (σ a) (setD (E (σ a)) 0), nI (kp - 1)) := by rw [dropK, eD]
      obtain ⟨σ', g1, g2, g3, g4, g5, g6⟩ := drop_rel (c := c) (rr := rr) (k := k) (h.drop ha o3) (hi.drop ha) (by omega) (by omega) (by rw [cnt_drop ha hpa]; exact hc) (eok_upd he eok_free) (fun b hb => by
        by_cases q : b = a
        · rw [q, setK_s]; exact hm _ (by omega)
        · rw [setK_n q]; exact hm b (by omega))
      rw [eM, eE]
      have e9 : kp - (k + 1) = kp - 1 - k := by omega
      rw [e9]
      exact ⟨σ', g1, g2, g3, g4, g5, g6⟩

