/-! the two caches side by side -/
def EVr (x y : EV) : Prop := (∃ t : Nat → Nat, wt t ≤ 4000 ∧ x.1 = b4 t ∧ y.1 = b5 t) ∧ x.2 = y.2 ∧ x.2.2.1 ≠ 0
theorem EVr.isFor {x y : EV} {t : Nat → Nat} {z d : Int32} (h : EVr x y) (hw : wt t ≤ 4000) : isFor x (b4 t) z d = isFor y (b5 t) z d := by
  obtain ⟨⟨t', hw', e1, e2⟩, e3, -⟩ := h
  have g : (x.1 = b4 t) ↔ (y.1 = b5 t) := by
    rw [e1, e2, b4_inj (tl_mono (tl12 hw') (by decide)) (tl_mono (tl12 hw) (by decide)), b5_inj (tl_mono (tl12 hw') (by decide)) (tl_mono (tl12 hw) (by decide))]
  have g2 : decide (x.1 = b4 t) = decide (y.1 = b5 t) := decide_eq_decide.mpr g
  show (decide _ && decide (x.2.1 = z) && decide (x.2.2.1 = d)) = (decide _ && decide (y.2.1 = z) && decide (y.2.2.1 = d))
  rw [g2, e3]
/-- kept row e lies in slot σ e; the other slots are free and without pins -/
def RelS (σ : Nat → Nat) (n kp : Nat) (K E : Nat → EV) : Prop :=
  (∀ a, a < kp → σ a < n ∧ EVr (K a) (E (σ a))) ∧ (∀ a b, a < kp → b < kp → σ a = σ b → a = b) ∧ (∀ i, i < n → (E i).2.2.1 ≠ 0 → ∃ a, a < kp ∧ σ a = i) ∧ ∀ i, i < n → (E i).2.2.1 = 0 → (E i).2.2.2.2.2.2 = 0
section RS
variable {σ : Nat → Nat} {n kp : Nat} {K E : Nat → EV}
theorem setK_s {e : Nat} {y : EV} : setK K e y e = y := if_pos rfl
theorem setK_n {e j : Nat} {y : EV} (h : j ≠ e) : setK K e y j = K j := if_neg h
theorem RelS.upd (h : RelS σ n kp K E) {e : Nat} (he : e < kp) {x y : EV} (hxy : EVr x y) : RelS σ n kp (setK K e x) (updE E (σ e) y) := by
  obtain ⟨h1, h2, h3, h4⟩ := h
  have hy : y.2.2.1 ≠ 0 := by rw [← hxy.2.1]; exact hxy.2.2
  refine ⟨fun a ha => ?_, h2, fun i hi hd => ?_, fun i hi hd => ?_⟩
  · by_cases q : a = e
    · subst q; rw [setK_s, updE_s]; exact ⟨(h1 a ha).1, hxy⟩
    · rw [setK_n q, updE_n (fun z => q (h2 a e ha he z))]; exact h1 a ha
  · by_cases q : i = σ e
    · exact ⟨e, he, q.symm⟩
    · rw [updE_n q] at hd; exact h3 i hi hd
  · by_cases q : i = σ e
    · rw [q, updE_s] at hd; exact absurd hd hy
    · rw [updE_n q] at hd ⊢; exact h4 i hi hd
theorem RelS.drop (h : RelS σ n kp K E) {e : Nat} (he : e < kp) (hp : (E (σ e)).2.2.2.2.2.2 = 0) : RelS (fun a => if a = e then σ (kp - 1) else σ a) n (kp - 1) (setK K e (K (kp - 1))) (updE E (σ e) (setD (E (σ e)) 0)) := by
  obtain ⟨h1, h2, h3, h4⟩ := h
  refine ⟨fun a ha => ?_, fun a b ha hb hab => ?_, fun i hi hd => ?_, fun i hi hd => ?_⟩
  · by_cases q : a = e
    · subst q
      simp only [if_pos]
      rw [setK_s, updE_n (fun z => by have := h2 (kp - 1) a (by omega) he z; omega)]
      exact h1 (kp - 1) (by omega)
    · simp only [if_neg q]
      rw [setK_n q, updE_n (fun z => q (h2 a e (by omega) he z))]
      exact h1 a (by omega)
  · by_cases q1 : a = e
    · by_cases q2 : b = e
      · omega
      · simp only [if_pos q1, if_neg q2] at hab
        have := h2 (kp - 1) b (by omega) (by omega) hab
        omega
    · by_cases q2 : b = e
      · simp only [if_neg q1, if_pos q2] at hab
        have := h2 a (kp - 1) (by omega) (by omega) hab
        omega
      · simp only [if_neg q1, if_neg q2] at hab
        exact h2 a b (by omega) (by omega) hab
  · have q : i ≠ σ e := fun z => by rw [z, updE_s] at hd; exact hd rfl
    rw [updE_n q] at hd
    obtain ⟨a, ha, rfl⟩ := h3 i hi hd
    have hae : a ≠ e := fun z => q (by rw [z])
    by_cases ql : a = kp - 1
    · exact ⟨e, by omega, (if_pos rfl).trans (by rw [ql])⟩
    · exact ⟨a, by omega, if_neg hae⟩
  · by_cases q : i = σ e
    · rw [q, updE_s]; exact hp
    · rw [updE_n q] at hd ⊢; exact h4 i hi hd
theorem RelS.add (h : RelS σ n kp K E) {i : Nat} (hi : i < n) (hf : (E i).2.2.1 = 0) {x y : EV} (hxy : EVr x y) : RelS (fun a => if a = kp then i else σ a) n (kp + 1) (setK K kp x) (updE E i y) := by
  obtain ⟨h1, h2, h3, h4⟩ := h
  have hy : y.2.2.1 ≠ 0 := by rw [← hxy.2.1]; exact hxy.2.2
  have hne : ∀ a, a < kp → σ a ≠ i := fun a ha z => by
    have g := (h1 a ha).2
    rw [z] at g
    exact g.2.2 (by rw [g.2.1]; exact hf)
  refine ⟨fun a ha => ?_, fun a b ha hb hab => ?_, fun j hj hd => ?_, fun j hj hd => ?_⟩
  · by_cases q : a = kp
    · subst q
      simp only [if_pos]
      rw [setK_s, updE_s]
      exact ⟨hi, hxy⟩
    · simp only [if_neg q]
      rw [setK_n q, updE_n (hne a (by omega))]
      exact h1 a (by omega)
  · by_cases q1 : a = kp
    · by_cases q2 : b = kp
      · omega
      · simp only [if_pos q1, if_neg q2] at hab
        exact absurd hab.symm (hne b (by omega))
    · by_cases q2 : b = kp
      · simp only [if_neg q1, if_pos q2] at hab
        exact absurd hab (hne a (by omega))
      · simp only [if_neg q1, if_neg q2] at hab
        exact h2 a b (by omega) (by omega) hab
  · by_cases q : j = i
    · exact ⟨kp, by omega, (if_pos rfl).trans q.symm⟩
    · rw [updE_n q] at hd
      obtain ⟨a, ha, rfl⟩ := h3 j hj hd
      exact ⟨a, by omega, if_neg (by omega)⟩
  · by_cases q : j = i
    · rw [q, updE_s] at hd; exact absurd hd hy
    · rw [updE_n q] at hd ⊢; exact h4 j hj hd
/-- both find the same -/
theorem RelS.find (h : RelS σ n kp K E) (hk : ∀ a b, a < kp → b < kp → (K a).1 = (K b).1 → (K a).2.1 = (K b).2.1 → (K a).2.2.1 = (K b).2.2.1 → a = b) {t : Nat → Nat} {z d : Int32} (hw : wt t ≤ 4000) (hd : d ≠ 0) :
    (fstP (fun j => isFor (K j) (b4 t) z d) kp = none ∧ fstP (fun j => isFor (E j) (b5 t) z d) n = none) ∨ ∃ a, a < kp ∧ isFor (K a) (b4 t) z d = true ∧ fstP (fun j => isFor (K j) (b4 t) z d) kp = some a ∧ fstP (fun j => isFor (E j) (b5 t) z d) n = some (σ a) := by
  obtain ⟨h1, h2, h3, h4⟩ := h
  have hcls : ∀ i, i < n → isFor (E i) (b5 t) z d = true → ∃ a, a < kp ∧ σ a = i ∧ isFor (K a) (b4 t) z d = true := fun i hi hf => by
    obtain ⟨-, -, f3⟩ := isFor_iff.mp hf
    obtain ⟨a, ha, e⟩ := h3 i hi (by rw [f3]; exact hd)
    exact ⟨a, ha, e, by rw [(h1 a ha).2.isFor hw, e]; exact hf⟩
  cases hm : fstP (fun j => isFor (K j) (b4 t) z d) kp with
  | none =>
    refine Or.inl ⟨rfl, fstP_none (fun j hj => ?_)⟩
    cases hq : isFor (E j) (b5 t) z d with
    | false => rfl
    | true =>
      obtain ⟨a, ha, -, hf⟩ := hcls j hj hq
      exact absurd hf (by rw [fstP_nspec hm a ha]; decide)
  | some a =>
    have hs := fstP_spec hm
    have hf : isFor (E (σ a)) (b5 t) z d = true := by rw [← (h1 a hs.1).2.isFor hw]; exact hs.2
    refine Or.inr ⟨a, hs.1, hs.2, rfl, ?_⟩
    cases hc : fstP (fun j => isFor (E j) (b5 t) z d) n with
    | none => exact absurd hf (by rw [fstP_nspec hc _ (h1 a hs.1).1]; decide)
    | some i =>
      have hs2 := fstP_spec hc
      obtain ⟨b, hb, e, hfb⟩ := hcls i hs2.1 hs2.2
      obtain ⟨g1, g2, g3⟩ := isFor_iff.mp hs.2
      obtain ⟨k1, k2, k3⟩ := isFor_iff.mp hfb
      have : b = a := hk b a hb hs.1 (k1.trans g1.symm) (k2.trans g2.symm) (k3.trans g3.symm)
      rw [← e, this]
theorem oldM_spec : ∀ {m o : Nat}, oldM K m = some o → (K o).2.2.2.2.2.2 = 0 ∧ ∀ j, j < m → (K j).2.2.2.2.2.2 = 0 → (K o).2.2.2.2.2.1 ≤ (K j).2.2.2.2.2.1
  | 0, o, h => by cases h
  | m + 1, o, h => by
    unfold oldM at h
    cases hq : oldM K m with
    | none =>
      rw [hq] at h
      dsimp only at h
      split at h
      · rename_i hp
        cases h
        refine ⟨hp, fun j hj hpj => ?_⟩
        by_cases e : j = m
        · rw [e]; exact Int32.le_refl _
        · exfalso
          have hno : ∀ k, oldM K k = none → ∀ j, j < k → (K j).2.2.2.2.2.2 ≠ 0 := by
            intro k
            induction k with
            | zero => exact fun _ j hj => absurd hj (Nat.not_lt_zero _)
            | succ k ih =>
              intro hk j hj
              unfold oldM at hk
              cases hq2 : oldM K k with
              | none =>
                rw [hq2] at hk
                dsimp only at hk
                split at hk
                · cases hk
                · rename_i hn
                  by_cases e2 : j = k
                  · rw [e2]; exact hn
                  · exact ih hq2 j (by omega)
              | some o2 =>
                rw [hq2] at hk
                dsimp only at hk
                split at hk <;> cases hk
          exact hno m hq j (by omega) hpj
      · cases h
    | some o' =>
      rw [hq] at h
      dsimp only at h
      have ih := oldM_spec hq
      split at h
      · rename_i hp
        cases h
        refine ⟨hp.1, fun j hj hpj => ?_⟩
        by_cases e : j = m
        · rw [e]; exact Int32.le_refl _
        · exact Int32.le_trans (Int32.le_of_lt hp.2) (ih.2 j (by omega) hpj)
      · rename_i hp
        cases h
        refine ⟨ih.1, fun j hj hpj => ?_⟩
        by_cases e : j = m
        · subst e
          exact Int32.not_lt.mp (fun z => hp ⟨hpj, z⟩)
        · exact ih.2 j (by omega) hpj
theorem oldM_nspec : ∀ {m : Nat}, oldM K m = none → ∀ j, j < m → (K j).2.2.2.2.2.2 ≠ 0
  | 0, _, j, hj => absurd hj (Nat.not_lt_zero _)
  | m + 1, h, j, hj => by
    unfold oldM at h
    cases hq : oldM K m with
    | none =>
      rw [hq] at h
      dsimp only at h
      split at h
      · cases h
      · rename_i hn
        by_cases e : j = m
        · rw [e]; exact hn
        · exact oldM_nspec hq j (by omega)
    | some o =>
      rw [hq] at h
      dsimp only at h
      split at h <;> cases h
theorem oldI_nspec : ∀ {m : Nat}, oldI E m = none → ∀ j, j < m → elig (E j) = false
  | 0, _, j, hj => absurd hj (Nat.not_lt_zero _)
  | m + 1, h, j, hj => by
    unfold oldI at h
    cases hq : oldI E m with
    | none =>
      rw [hq] at h
      dsimp only at h
      split at h
      · cases h
      · rename_i hn
        by_cases e : j = m
        · rw [e]
          cases he : elig (E m) with
          | false => rfl
          | true => exact absurd he hn
        · exact oldI_nspec hq j (by omega)
    | some o =>
      rw [hq] at h
      dsimp only at h
      split at h <;> cases h
theorem oldI_spec : ∀ {m o : Nat}, oldI E m = some o → elig (E o) = true ∧ ∀ j, j < m → elig (E j) = true → (E o).2.2.2.2.2.1 ≤ (E j).2.2.2.2.2.1
  | 0, o, h => by cases h
  | m + 1, o, h => by
    unfold oldI at h
    cases hq : oldI E m with
    | none =>
      rw [hq] at h
      dsimp only at h
      split at h
      · rename_i hp
        cases h
        refine ⟨hp, fun j hj hpj => ?_⟩
        by_cases e : j = m
        · rw [e]; exact Int32.le_refl _
        · exact absurd hpj (by rw [oldI_nspec hq j (by omega)]; decide)
      · cases h
    | some o' =>
      rw [hq] at h
      dsimp only at h
      have ih := oldI_spec hq
      split at h
      · rename_i hp
        cases h
        refine ⟨hp.1, fun j hj hpj => ?_⟩
        by_cases e : j = m
        · rw [e]; exact Int32.le_refl _
        · exact Int32.le_trans (Int32.le_of_lt hp.2) (ih.2 j (by omega) hpj)
      · rename_i hp
        cases h
        refine ⟨ih.1, fun j hj hpj => ?_⟩
        by_cases e : j = m
        · subst e
          exact Int32.not_lt.mp (fun z => hp ⟨hpj, z⟩)
        · exact ih.2 j (by omega) hpj
theorem elig_iff {x : EV} : elig x = true ↔ x.2.2.1 ≠ 0 ∧ x.2.2.2.2.2.2 = 0 := by
  unfold elig
  simp
/-- both would drop the same -/
theorem RelS.old (h : RelS σ n kp K E) (hu : ∀ a b, a < kp → b < kp → (K a).2.2.2.2.2.1 = (K b).2.2.2.2.2.1 → a = b) :
    (oldM K kp = none ∧ oldI E n = none) ∨ ∃ a, a < kp ∧ oldM K kp = some a ∧ oldI E n = some (σ a) ∧ (E (σ a)).2.2.2.2.2.2 = 0 := by
  obtain ⟨h1, h2, h3, h4⟩ := h
  have hel : ∀ a, a < kp → (elig (E (σ a)) = true ↔ (K a).2.2.2.2.2.2 = 0) := fun a ha => by
    obtain ⟨-, e, hd⟩ := (h1 a ha).2
    rw [elig_iff, ← e]
    exact ⟨fun z => z.2, fun z => ⟨hd, z⟩⟩
  cases hm : oldM K kp with
  | none =>
    refine Or.inl ⟨rfl, ?_⟩
    cases hc : oldI E n with
    | none => rfl
    | some i =>
      have hs := oldI_spec hc
      obtain ⟨a, ha, rfl⟩ := h3 i (oldI_lt hc) (elig_iff.mp hs.1).1
      exact absurd ((hel a ha).mp hs.1) (oldM_nspec hm a ha)
  | some a =>
    have hlt := oldM_lt hm
    have hs := oldM_spec hm
    have he := (hel a hlt).mpr hs.1
    refine Or.inr ⟨a, hlt, rfl, ?_, (elig_iff.mp he).2⟩
    cases hc : oldI E n with
    | none => exact absurd he (by rw [oldI_nspec hc _ (h1 a hlt).1]; decide)
    | some i =>
      have hs2 := oldI_spec hc
      obtain ⟨b, hb, rfl⟩ := h3 i (oldI_lt hc) (elig_iff.mp hs2.1).1
      have e1 := hs.2 b hb ((hel b hb).mp hs2.1)
      have e2 := hs2.2 (σ a) (h1 a hlt).1 he
      rw [← (h1 a hlt).2.2.1, ← (h1 b hb).2.2.1] at e2
      rw [hu a b hlt hb (Int32.le_antisymm e1 e2)]
end RS

