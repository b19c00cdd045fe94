/-! the two searches go alike -/
theorem php : ∀ (kp n : Nat) (τ : Nat → Nat), (∀ i, i < n → τ i < kp) → (∀ i j, i < n → j < n → τ i = τ j → i = j) → n ≤ kp
  | 0, n, τ, h, _ => by
    cases n with
    | zero => exact Nat.le_refl _
    | succ n => exact absurd (h 0 (by omega)) (Nat.not_lt_zero _)
  | kp + 1, 0, _, _, _ => Nat.zero_le _
  | kp + 1, n + 1, τ, h, hi => by
    have ih := php kp n (fun i => if τ i = kp then τ n else τ i) (fun i hin => by
      by_cases q : τ i = kp
      · rw [if_pos q]
        have h1 := h n (by omega)
        have h2 : τ n ≠ kp := fun z => by have := hi i n (by omega) (by omega) (q.trans z.symm); omega
        omega
      · rw [if_neg q]
        have := h i (by omega)
        omega) (fun i j hin hjn hij => by
      by_cases q1 : τ i = kp
      · by_cases q2 : τ j = kp
        · exact hi i j (by omega) (by omega) (q1.trans q2.symm)
        · rw [if_pos q1, if_neg q2] at hij
          have := hi n j (by omega) (by omega) hij
          omega
      · by_cases q2 : τ j = kp
        · rw [if_neg q1, if_pos q2] at hij
          have := hi i n (by omega) (by omega) hij
          omega
        · rw [if_neg q1, if_neg q2] at hij
          exact hi i j (by omega) (by omega) hij)
    omega
/-- while fewer are kept than there are slots, a slot is free -/
theorem RelS.free {σ : Nat → Nat} {n kp : Nat} {K E : Nat → EV} (h : RelS σ n kp K E) (hk : kp < n) : ∃ i, i < n ∧ fstP (fun j => decide ((E j).2.2.1 = 0)) n = some i ∧ (E i).2.2.1 = 0 := by
  cases hf : fstP (fun j => decide ((E j).2.2.1 = 0)) n with
  | some i => exact ⟨i, (fstP_spec hf).1, rfl, of_decide_eq_true (fstP_spec hf).2⟩
  | none =>
    exfalso
    have hl : ∀ i, i < n → ∃ a, a < kp ∧ σ a = i := fun i hi => h.2.2.1 i hi (of_decide_eq_false (fstP_nspec hf i hi))
    have hτ : ∀ i : Nat, ∃ a : Nat, i < n → a < kp ∧ σ a = i := fun i => by
      by_cases hi : i < n
      · obtain ⟨a, ha⟩ := hl i hi
        exact ⟨a, fun _ => ha⟩
      · exact ⟨0, fun z => absurd z hi⟩
    have hc := Classical.axiomOfChoice hτ
    obtain ⟨τ, ht⟩ := hc
    have := php kp n τ (fun i hi => (ht i hi).1) (fun i j hi hj hij => by rw [← (ht i hi).2, ← (ht j hj).2, hij])
    omega
/-- the model's rows: when used, all apart; by what they are found, all apart -/
def KInv (kp : Nat) (K : Nat → EV) (c : Nat) : Prop := (∀ a, a < kp → ∃ u, u ≤ c ∧ (K a).2.2.2.2.2.1 = nI u) ∧ (∀ a b, a < kp → b < kp → (K a).2.2.2.2.2.1 = (K b).2.2.2.2.2.1 → a = b) ∧ ∀ a b, a < kp → b < kp → (K a).1 = (K b).1 → (K a).2.1 = (K b).2.1 → (K a).2.2.1 = (K b).2.2.1 → a = b
theorem KInv.set {kp c e : Nat} {K : Nat → EV} {y : EV} (h : KInv kp K c) (he : e < kp) (hc : c + 1 < 2 ^ 31) (h1 : y.1 = (K e).1) (h2 : y.2.1 = (K e).2.1) (h3 : y.2.2.1 = (K e).2.2.1) (hu : y.2.2.2.2.2.1 = nI (c + 1)) : KInv kp (setK K e y) (c + 1) := by
  obtain ⟨g1, g2, g3⟩ := h
  have hne : ∀ a, a < kp → (K a).2.2.2.2.2.1 ≠ nI (c + 1) := fun a ha z => by
    obtain ⟨u, hu1, hu2⟩ := g1 a ha
    have := (nI_eq (by omega) hc).mp (hu2.symm.trans z)
    omega
  refine ⟨fun a ha => ?_, fun a b ha hb hab => ?_, fun a b ha hb e1 e2 e3 => ?_⟩
  · by_cases q : a = e
    · rw [q, setK_s]; exact ⟨c + 1, Nat.le_refl _, hu⟩
    · rw [setK_n q]; obtain ⟨u, hu1, hu2⟩ := g1 a ha; exact ⟨u, by omega, hu2⟩
  · by_cases q1 : a = e
    · by_cases q2 : b = e
      · rw [q1, q2]
      · rw [q1, setK_s, setK_n q2, hu] at hab; exact absurd hab.symm (hne b hb)
    · by_cases q2 : b = e
      · rw [q2, setK_s, setK_n q1, hu] at hab; exact absurd hab (hne a ha)
      · rw [setK_n q1, setK_n q2] at hab; exact g2 a b ha hb hab
  · have k : ∀ j, (setK K e y j).1 = (K j).1 ∧ (setK K e y j).2.1 = (K j).2.1 ∧ (setK K e y j).2.2.1 = (K j).2.2.1 := fun j => by
      by_cases q : j = e
      · rw [q, setK_s]; exact ⟨h1, h2, h3⟩
      · rw [setK_n q]; exact ⟨rfl, rfl, rfl⟩
    obtain ⟨a1, a2, a3⟩ := k a
    obtain ⟨b1, b2, b3⟩ := k b
    rw [a1, b1] at e1
    rw [a2, b2] at e2
    rw [a3, b3] at e3
    exact g3 a b ha hb e1 e2 e3
theorem KInv.drop {kp c e : Nat} {K : Nat → EV} (h : KInv kp K c) (he : e < kp) : KInv (kp - 1) (setK K e (K (kp - 1))) c := by
  obtain ⟨g1, g2, g3⟩ := h
  have k : ∀ a, a < kp - 1 → ∃ a', a' < kp ∧ setK K e (K (kp - 1)) a = K a' ∧ (a = e → a' = kp - 1) ∧ (a ≠ e → a' = a) := fun a ha => by
    by_cases q : a = e
    · exact ⟨kp - 1, by omega, by rw [q, setK_s], fun _ => rfl, fun z => absurd q z⟩
    · exact ⟨a, by omega, setK_n q, fun z => absurd z q, fun _ => rfl⟩
  have kk : ∀ a b, a < kp - 1 → b < kp - 1 → ∀ a' b', (a = e → a' = kp - 1) → (a ≠ e → a' = a) → (b = e → b' = kp - 1) → (b ≠ e → b' = b) → a' = b' → a = b := fun a b ha hb a' b' p1 p2 p3 p4 hab => by
    by_cases q1 : a = e
    · by_cases q2 : b = e
      · rw [q1, q2]
      · have := p1 q1; have := p4 q2; omega
    · by_cases q2 : b = e
      · have := p2 q1; have := p3 q2; omega
      · have := p2 q1; have := p4 q2; omega
  refine ⟨fun a ha => ?_, fun a b ha hb hab => ?_, fun a b ha hb e1 e2 e3 => ?_⟩
  · obtain ⟨a', ha', e', -⟩ := k a ha
    rw [e']; exact g1 a' ha'
  · obtain ⟨a', ha', ea, p1, p2⟩ := k a ha
    obtain ⟨b', hb', eb, p3, p4⟩ := k b hb
    rw [ea, eb] at hab
    exact kk a b ha hb a' b' p1 p2 p3 p4 (g2 a' b' ha' hb' hab)
  · obtain ⟨a', ha', ea, p1, p2⟩ := k a ha
    obtain ⟨b', hb', eb, p3, p4⟩ := k b hb
    rw [ea, eb] at e1 e2 e3
    exact kk a b ha hb a' b' p1 p2 p3 p4 (g3 a' b' ha' hb' e1 e2 e3)
theorem KInv.add {kp c : Nat} {K : Nat → EV} {y : EV} (h : KInv kp K c) (hc : c + 1 < 2 ^ 31) (hu : y.2.2.2.2.2.1 = nI (c + 1)) (hn : ∀ a, a < kp → isFor (K a) y.1 y.2.1 y.2.2.1 = false) : KInv (kp + 1) (setK K kp y) (c + 1) := by
  obtain ⟨g1, g2, g3⟩ := h
  have hne : ∀ a, a < kp → (K a).2.2.2.2.2.1 ≠ nI (c + 1) := fun a ha z => by
    obtain ⟨u, hu1, hu2⟩ := g1 a ha
    have := (nI_eq (by omega) hc).mp (hu2.symm.trans z)
    omega
  refine ⟨fun a ha => ?_, fun a b ha hb hab => ?_, fun a b ha hb e1 e2 e3 => ?_⟩
  · by_cases q : a = kp
    · rw [q, setK_s]; exact ⟨c + 1, Nat.le_refl _, hu⟩
    · rw [setK_n q]; obtain ⟨u, hu1, hu2⟩ := g1 a (by omega); exact ⟨u, by omega, hu2⟩
  · by_cases q1 : a = kp
    · by_cases q2 : b = kp
      · rw [q1, q2]
      · rw [q1, setK_s, setK_n q2, hu] at hab; exact absurd hab.symm (hne b (by omega))
    · by_cases q2 : b = kp
      · rw [q2, setK_s, setK_n q1, hu] at hab; exact absurd hab (hne a (by omega))
      · rw [setK_n q1, setK_n q2] at hab; exact g2 a b (by omega) (by omega) hab
  · by_cases q1 : a = kp
    · by_cases q2 : b = kp
      · rw [q1, q2]
      · rw [q1, setK_s, setK_n q2] at e1 e2 e3
        exact absurd (isFor_iff.mpr ⟨e1.symm, e2.symm, e3.symm⟩) (by rw [hn b (by omega)]; decide)
    · by_cases q2 : b = kp
      · rw [q2, setK_s, setK_n q1] at e1 e2 e3
        exact absurd (isFor_iff.mpr ⟨e1, e2, e3⟩) (by rw [hn a (by omega)]; decide)
      · rw [setK_n q1, setK_n q2] at e1 e2 e3
        exact g3 a b (by omega) (by omega) e1 e2 e3
/-- model and class side by side: rows, counts, the clock; hits apart by hd -/
def RA (σ : Nat → Nat) (rr : Nat) (hd : Int32) (M : MT) (S : SS) (c : Nat) : Prop :=
  RelS σ 64 M.2.1 M.1 S.1 ∧ KInv M.2.1 M.1 c ∧ M.2.2.1 = nI c ∧ S.2.2.1 = nI c ∧ S.2.1 = nI M.2.1 ∧ M.2.1 ≤ rr ∧ M.2.2.2.1 = S.2.2.2.1 + hd ∧ M.2.2.2.2 = S.2.2.2.2
theorem RA.miss {σ : Nat → Nat} {rr : Nat} {hd : Int32} {M : MT} {S : SS} {c : Nat} (h : RA σ rr hd M S c) : RA σ rr hd (missM M) (missS S) c := by
  obtain ⟨h1, h2, h3, h4, h5, h6, h7, h8⟩ := h
  exact ⟨h1, h2, h3, h4, h5, h6, h7, by show M.2.2.2.2 + 1 = S.2.2.2.2 + 1; rw [h8]⟩
theorem RA.use {σ : Nat → Nat} {rr : Nat} {hd : Int32} {M : MT} {S : SS} {c a : Nat} (h : RA σ rr hd M S c) (ha : a < M.2.1) (hc : c + 1 < 2 ^ 31) : RA σ rr hd (useM a M) (useS (σ a) S) (c + 1) := by
  obtain ⟨h1, h2, h3, h4, h5, h6, h7, h8⟩ := h
  have hr := (h1.1 a ha).2
  have e1 : M.2.2.1 + 1 = nI (c + 1) := by rw [h3]; exact nI_1 c
  have e2 : S.2.2.1 + 1 = nI (c + 1) := by rw [h4]; exact nI_1 c
  refine ⟨?_, ?_, e1, e2, h5, h6, ?_, h8⟩
  · show RelS σ 64 M.2.1 (setK M.1 a (setU (M.1 a) (M.2.2.1 + 1))) (updE S.1 (σ a) (setU (S.1 (σ a)) (S.2.2.1 + 1)))
    rw [e1, e2]
    exact h1.upd ha ⟨hr.1, by unfold setU; rw [hr.2.1], hr.2.2⟩
  · show KInv M.2.1 (setK M.1 a (setU (M.1 a) (M.2.2.1 + 1))) (c + 1)
    rw [e1]
    exact h2.set ha hc rfl rfl rfl rfl
  · show M.2.2.2.1 + 1 = S.2.2.2.1 + 1 + hd
    rw [h7, Int32.add_assoc, Int32.add_assoc, Int32.add_comm hd 1]
theorem RA.put {σ : Nat → Nat} {rr : Nat} {hd : Int32} {M : MT} {S : SS} {c : Nat} {t : Nat → Nat} {z d w p : Int32} (h : RA σ rr hd M S c) (hr1 : 1 ≤ rr) (hrr : rr ≤ 64) (hc : c + 1 < 2 ^ 31) (hw : wt t ≤ 4000) (hd0 : d ≠ 0) (hn : ∀ a, a < M.2.1 → isFor (M.1 a) (b4 t) z d = false) :
    ∃ σ' c', c ≤ c' ∧ c' ≤ c + 1 ∧ RA σ' rr hd (keepT true rr (b4 t) z d w p M) (putS 64 (nI rr) (b5 t) z d w p S) c' := by
  obtain ⟨h1, h2, h3, h4, h5, h6, h7, h8⟩ := h
  have e1 : M.2.2.1 + 1 = nI (c + 1) := by rw [h3]; exact nI_1 c
  have e2 : S.2.2.1 + 1 = nI (c + 1) := by rw [h4]; exact nI_1 c
  have hM : keepT true rr (b4 t) z d w p M = ((keepM rr (M.1, M.2.1, M.2.2.1) (b4 t) z d w p).1, (keepM rr (M.1, M.2.1, M.2.2.1) (b4 t) z d w p).2.1, (keepM rr (M.1, M.2.1, M.2.2.1) (b4 t) z d w p).2.2, M.2.2.2.1, M.2.2.2.2) := if_pos rfl
  rw [hM]
  unfold putS
  rw [putC_eq]
  by_cases hf : M.2.1 = rr
  · have hlt : ¬ S.2.1 < nI rr := by rw [h5, hf]; exact Int32.lt_irrefl
    rw [if_neg hlt]
    rcases h1.old h2.2.1 with ⟨o1, o2⟩ | ⟨a, ha, o1, o2, o3⟩
    · rw [keepM_no (q := (M.1, M.2.1, M.2.2.1)) hf o1]
      have hd2 : drC 64 (S.1, S.2.1) = (S.1, S.2.1) := by unfold drC; rw [o2]
      rw [hd2, putT_full (by rw [h5, hf]; exact Int32.le_refl _)]
      exact ⟨σ, c, Nat.le_refl _, by omega, h1, h2, h3, h4, h5, h6, h7, h8⟩
    · rw [keepM_drop (q := (M.1, M.2.1, M.2.2.1)) hf o1]
      have hd2 : drC 64 (S.1, S.2.1) = (updE S.1 (σ a) (setD (S.1 (σ a)) 0), nI (M.2.1 - 1)) := by
        unfold drC
        rw [o2]
        show (_, S.2.1 - 1) = _
        rw [h5, show (1 : Int32) = nI 1 from rfl, nI_sub_ge (by omega) (by omega)]
      have hD := h1.drop ha o3
      obtain ⟨i, hi, hfi, hzi⟩ := hD.free (by omega)
      have hs := fstP_spec hfi
      rw [hd2]
      have hput : putT 64 (updE S.1 (σ a) (setD (S.1 (σ a)) 0), nI (M.2.1 - 1)) (nI rr) S.2.2.1 (b5 t) z d w p = (updE (updE S.1 (σ a) (setD (S.1 (σ a)) 0)) i (b5 t, z, d, w, p, S.2.2.1 + 1, (updE S.1 (σ a) (setD (S.1 (σ a)) 0) i).2.2.2.2.2.2), nI (M.2.1 - 1) + 1, S.2.2.1 + 1) := by
        unfold putT
        rw [hfi]
        exact if_neg (nI_ge (by omega) (by omega))
      rw [hput, hD.2.2.2 i hi hzi, e2]
      have hMa : addM (setK M.1 a (M.1 (M.2.1 - 1)), M.2.1 - 1, M.2.2.1) (b4 t) z d w p = (setK (setK M.1 a (M.1 (M.2.1 - 1))) (M.2.1 - 1) (b4 t, z, d, w, p, nI (c + 1), 0), M.2.1 - 1 + 1, nI (c + 1)) := by unfold addM; rw [e1]
      refine ⟨(fun b => if b = M.2.1 - 1 then i else (fun b => if b = a then σ (M.2.1 - 1) else σ b) b), c + 1, by omega, Nat.le_refl _, ?_⟩
      show RA _ rr hd ((addM (setK M.1 a (M.1 (M.2.1 - 1)), M.2.1 - 1, M.2.2.1) (b4 t) z d w p).1, (addM (setK M.1 a (M.1 (M.2.1 - 1)), M.2.1 - 1, M.2.2.1) (b4 t) z d w p).2.1, (addM (setK M.1 a (M.1 (M.2.1 - 1)), M.2.1 - 1, M.2.2.1) (b4 t) z d w p).2.2, _, _) _ _
      rw [hMa]
      refine ⟨hD.add hi hzi ⟨⟨t, hw, rfl, rfl⟩, rfl, hd0⟩, (h2.drop ha).add hc rfl (fun b hb => ?_), rfl, rfl, nI_1 _, by show M.2.1 - 1 + 1 ≤ rr; omega, h7, h8⟩
      by_cases q : b = a
      · rw [q, setK_s]; exact hn _ (by omega)
      · rw [setK_n q]; exact hn b (by omega)
  · have hlt : S.2.1 < nI rr := by rw [h5]; exact nI_lt (by omega) (by omega)
    rw [if_pos hlt, keepM_add (q := (M.1, M.2.1, M.2.2.1)) hf]
    obtain ⟨i, hi, hfi, hzi⟩ := h1.free (by omega)
    have hput : putT 64 (S.1, S.2.1) (nI rr) S.2.2.1 (b5 t) z d w p = (updE S.1 i (b5 t, z, d, w, p, S.2.2.1 + 1, (S.1 i).2.2.2.2.2.2), S.2.1 + 1, S.2.2.1 + 1) := by
      unfold putT
      rw [hfi]
      exact if_neg (Int32.not_le.mpr hlt)
    rw [hput, h1.2.2.2 i hi hzi, e2]
    have hMa : addM (M.1, M.2.1, M.2.2.1) (b4 t) z d w p = (setK M.1 M.2.1 (b4 t, z, d, w, p, nI (c + 1), 0), M.2.1 + 1, nI (c + 1)) := by unfold addM; rw [e1]
    refine ⟨(fun b => if b = M.2.1 then i else σ b), c + 1, by omega, Nat.le_refl _, ?_⟩
    rw [hMa]
    exact ⟨h1.add hi hzi ⟨⟨t, hw, rfl, rfl⟩, rfl, hd0⟩, h2.add hc rfl hn, rfl, rfl, by show S.2.1 + 1 = _; rw [h5]; exact nI_1 _, by show M.2.1 + 1 ≤ rr; omega, h7, h8⟩

