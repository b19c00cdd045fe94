/-! the whole search goes alike; counts go alike -/
def absK (M : MT) (b : Int64) (z D : Int32) : Prop := ∀ a, a < M.2.1 → isFor (M.1 a) b z D = false
theorem abs_set {kp e : Nat} {K : Nat → EV} {y : EV} {b : Int64} {z D : Int32} (h : ∀ a, a < kp → isFor (K a) b z D = false) (hy : isFor y b z D = false) : ∀ a, a < kp → isFor (setK K e y a) b z D = false := fun a ha => by
  by_cases q : a = e
  · rw [q, setK_s]; exact hy
  · rw [setK_n q]; exact h a ha
theorem isFor_d {x : EV} {b : Int64} {z D : Int32} (h : x.2.2.1 ≠ D) : isFor x b z D = false := by
  unfold isFor
  rw [decide_eq_false h, Bool.and_false]
theorem abs_keep {cb : Bool} {rr : Nat} {M : MT} {b b0 : Int64} {z D z0 d0 w p : Int32} (h : absK M b z D) (hd : d0 ≠ D) : absK (keepT cb rr b0 z0 d0 w p M) b z D := by
  cases cb with
  | false => exact h
  | true =>
    show ∀ a, a < (keepM rr (M.1, M.2.1, M.2.2.1) b0 z0 d0 w p).2.1 → isFor ((keepM rr (M.1, M.2.1, M.2.2.1) b0 z0 d0 w p).1 a) b z D = false
    have hadd : ∀ (K : Nat → EV) (kp : Nat) (ck : Int32), (∀ a, a < kp → isFor (K a) b z D = false) → ∀ a, a < (addM (K, kp, ck) b0 z0 d0 w p).2.1 → isFor ((addM (K, kp, ck) b0 z0 d0 w p).1 a) b z D = false := fun K kp ck hK a ha => by
      show isFor (setK K kp _ a) b z D = false
      have ha2 : a < kp + 1 := ha
      by_cases q : a = kp
      · rw [q, setK_s]; exact isFor_d hd
      · rw [setK_n q]; exact hK a (by omega)
    by_cases hn : M.2.1 = rr
    · cases ho : oldM M.1 M.2.1 with
      | none => rw [keepM_no (q := (M.1, M.2.1, M.2.2.1)) hn ho]; exact h
      | some o =>
        have hlt := oldM_lt ho
        rw [keepM_drop (q := (M.1, M.2.1, M.2.2.1)) hn ho]
        have h9 : o < M.2.1 := hlt
        exact hadd _ _ _ (fun a (ha : a < M.2.1 - 1) => abs_set (kp := M.2.1) h (h (M.2.1 - 1) (by omega)) a (by omega))
    · rw [keepM_add (q := (M.1, M.2.1, M.2.2.1)) hn]
      exact hadd _ _ _ h
theorem fold_abs {go : Nat → Bool} {st : Nat → MT → MT} {M : MT} {b : Int64} {z D : Int32} (h : absK M b z D) : ∀ {n : Nat}, (∀ k, k < n → ∀ M', absK M' b z D → absK (st k M') b z D) → absK (foldM go st n M) b z D
  | 0, _ => h
  | n + 1, hs => by
    have ih := fold_abs (go := go) h (n := n) (fun k hk => hs k (by omega))
    unfold foldM
    split
    · exact hs n (by omega) _ ih
    · exact ih
theorem tr_abs {cb : Bool} {rr : Nat} {b : Int64} {z' D : Int32} : ∀ {d : Nat} {t : Nat → Nat} {z : Nat} {M : MT}, (∀ k, 1 ≤ k → k ≤ d → nI k ≠ D) → absK M b z' D → absK (trM cb rr d t z M) b z' D
  | 0, _, _, _, _, h => h
  | d + 1, t, z, M, hk, h => by
    rw [trM]
    cases hf : fstM cb (fun j => isFor (M.1 j) (b4 t) (nI z) (nI (d + 1))) M.2.1 with
    | some i =>
      have hi : i < M.2.1 := by
        unfold fstM at hf
        split at hf
        · exact (fstP_spec hf).1
        · cases hf
      exact abs_set (kp := M.2.1) h (h i hi)
    | none =>
      refine abs_keep (fold_abs (show absK (missM M) b z' D from h) (fun k _ M' hM' => tr_abs (fun j h1 h2 => hk j h1 (by omega)) hM')) (hk (d + 1) (by omega) (Nat.le_refl _))
def clk : Nat → Nat
  | 0 => 0
  | d + 1 => 4 * clk d + 1
theorem tr_rel {rr : Nat} {hd : Int32} (hr1 : 1 ≤ rr) (hrr : rr ≤ 64) : ∀ {d : Nat} {t : Nat → Nat} {z : Nat} {σ : Nat → Nat} {M : MT} {S : SS} {c : Nat}, d ≤ 4 → wt t + 4 * d ≤ 4000 → RA σ rr hd M S c → c + clk d < 2 ^ 31 → ∃ σ' c', c ≤ c' ∧ c' ≤ c + clk d ∧ RA σ' rr hd (trM true rr d t z M) (trS 64 (nI rr) d t z S) c'
  | 0, _, _, σ, _, _, c, _, _, h, _ => ⟨σ, c, Nat.le_refl _, Nat.le_refl _, h⟩
  | d + 1, t, z, σ, M, S, c, hd4, hw, h, hc => by
    have hcl : clk (d + 1) = 4 * clk d + 1 := rfl
    rcases h.1.find h.2.1.2.2 (t := t) (z := nI z) (d := nI (d + 1)) (by omega) (nI_ne0 (by omega) (by omega)) with ⟨f1, f2⟩ | ⟨a, ha, hfa, f1, f2⟩
    · have eM : trM true rr (d + 1) t z M = keepT true rr (b4 t) (nI z) (nI (d + 1)) (nI (wp (d + 1) t z).1) (wp (d + 1) t z).2 (foldM (goN t) (stM true rr d t z) 4 (missM M)) := by rw [trM, fstM, if_pos rfl, f1]
      have eS : trS 64 (nI rr) (d + 1) t z S = putS 64 (nI rr) (b5 t) (nI z) (nI (d + 1)) (nI (wp (d + 1) t z).1) (wp (d + 1) t z).2 (foldS (goN t) (stS 64 (nI rr) d t z) 4 (missS S)) := by rw [trS, f2]
      have hab : absK (missM M) (b4 t) (nI z) (nI (d + 1)) := fun a ha => fstP_nspec f1 a ha
      have hfold : ∀ k, k ≤ 4 → ∃ σ' c', c ≤ c' ∧ c' ≤ c + k * clk d ∧ RA σ' rr hd (foldM (goN t) (stM true rr d t z) k (missM M)) (foldS (goN t) (stS 64 (nI rr) d t z) k (missS S)) c' := by
        intro k
        induction k with
        | zero => exact fun _ => ⟨σ, c, Nat.le_refl _, by omega, h.miss⟩
        | succ k ih =>
          intro hk
          obtain ⟨σ1, c1, h1, h2, h3⟩ := ih (by omega)
          have hmul : (k + 1) * clk d = k * clk d + clk d := Nat.succ_mul _ _
          have hm4 : k * clk d ≤ 3 * clk d := Nat.mul_le_mul_right _ (by omega)
          cases hg : goN t k with
          | false =>
            rw [foldM_s hg, foldS_s hg]
            exact ⟨σ1, c1, h1, by omega, h3⟩
          | true =>
            rw [foldM_n hg, foldS_n hg]
            obtain ⟨σ2, c2, g1, g2, g3⟩ := tr_rel hr1 hrr (d := d) (t := drawT (pushT t k) z) (z := nxt (nxt z)) (by omega) (by have := wt_next (t := t) (z := z) (show k < 4 by omega); omega) h3 (by omega)
            exact ⟨σ2, c2, by omega, by omega, g3⟩
      obtain ⟨σ1, c1, h1, h2, h3⟩ := hfold 4 (Nat.le_refl _)
      have hab4 : absK (foldM (goN t) (stM true rr d t z) 4 (missM M)) (b4 t) (nI z) (nI (d + 1)) := fold_abs hab (fun k _ M' hM' => tr_abs (fun j j1 j2 q => by have := (nI_eq (by omega) (by omega)).mp q; omega) hM')
      obtain ⟨σ2, c2, g1, g2, g3⟩ := h3.put (t := t) (z := nI z) (d := nI (d + 1)) (w := nI (wp (d + 1) t z).1) (p := (wp (d + 1) t z).2) hr1 hrr (by omega) (by omega) (nI_ne0 (by omega) (by omega)) hab4
      rw [eM, eS]
      exact ⟨σ2, c2, by omega, by omega, g3⟩
    · have eM : trM true rr (d + 1) t z M = useM a M := by rw [trM, fstM, if_pos rfl, f1]
      have eS : trS 64 (nI rr) (d + 1) t z S = useS (σ a) S := by rw [trS, f2]
      rw [eM, eS]
      exact ⟨σ, c + 1, by omega, by omega, h.use ha (by omega)⟩
theorem cntP_zero {P : Nat → Bool} : ∀ {n : Nat}, (∀ i, i < n → P i = false) → cntP P n = 0
  | 0, _ => rfl
  | n + 1, h => by
    unfold cntP
    rw [cntP_zero (n := n) (fun i hi => h i (by omega)), h n (by omega)]
    rfl
theorem cntP_congr {P Q : Nat → Bool} : ∀ {n : Nat}, (∀ i, i < n → P i = Q i) → cntP P n = cntP Q n
  | 0, _ => rfl
  | n + 1, h => by
    unfold cntP
    rw [cntP_congr (n := n) (fun i hi => h i (by omega)), h n (by omega)]
theorem cntP_off {P : Nat → Bool} {k : Nat} : ∀ {n : Nat}, k < n → cntP P n = cntP (fun i => P i && !decide (i = k)) n + (if P k = true then 1 else 0)
  | 0, h => absurd h (Nat.not_lt_zero _)
  | n + 1, h => by
    unfold cntP
    by_cases q : k = n
    · subst q
      rw [cntP_congr (P := fun i => P i && !decide (i = k)) (Q := P) (n := k) (fun i hi => by rw [decide_eq_false (by omega : ¬ i = k)]; simp)]
      simp
    · rw [cntP_off (P := P) (k := k) (n := n) (by omega)]
      have e : (P n && !decide (n = k)) = P n := by rw [decide_eq_false (by omega : ¬ n = k)]; simp
      rw [e]
      omega
/-- counting the slots is counting the rows -/
theorem cnt_rel : ∀ {kp : Nat} {n : Nat} {σ : Nat → Nat} {Q : Nat → Bool}, (∀ a, a < kp → σ a < n) → (∀ a b, a < kp → b < kp → σ a = σ b → a = b) → (∀ i, i < n → Q i = true → ∃ a, a < kp ∧ σ a = i) → cntP Q n = cntP (fun a => Q (σ a)) kp
  | 0, n, σ, Q, _, _, h => by
    rw [cntP_zero (P := Q) (fun i hi => by
      cases hq : Q i with
      | false => rfl
      | true => obtain ⟨a, ha, -⟩ := h i hi hq; exact absurd ha (Nat.not_lt_zero _))]
    rfl
  | kp + 1, n, σ, Q, h1, h2, h3 => by
    rw [cntP_off (P := Q) (k := σ kp) (h1 kp (by omega))]
    have ih := cnt_rel (kp := kp) (n := n) (σ := σ) (Q := fun i => Q i && !decide (i = σ kp)) (fun a ha => h1 a (by omega)) (fun a b ha hb => h2 a b (by omega) (by omega)) (fun i hi hq => by
      have hq2 := (Bool.and_eq_true _ _).mp hq
      obtain ⟨a, ha, e⟩ := h3 i hi hq2.1
      refine ⟨a, ?_, e⟩
      have hne : ¬ i = σ kp := by have := hq2.2; simpa using this
      have : a ≠ kp := fun z => hne (by rw [← e, z])
      omega)
    rw [ih]
    show _ = cntP (fun a => Q (σ a)) kp + _
    rw [cntP_congr (P := fun a => Q (σ a) && !decide (σ a = σ kp)) (Q := fun a => Q (σ a)) (n := kp) (fun a ha => by
      have : ¬ σ a = σ kp := fun z => by have := h2 a kp (by omega) (by omega) z; omega
      rw [decide_eq_false this]; simp)]

