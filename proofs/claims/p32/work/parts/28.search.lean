/-! the search, as numbers, and what it does to a cache -/
def bestF (go : Nat → Bool) (val : Nat → Nat) : Nat → Nat × Int32
  | 0 => (0, -1)
  | k + 1 => if go k = true then (if (bestF go val k).2 = -1 ∨ (bestF go val k).1 < val k then (val k, nI k) else bestF go val k) else bestF go val k
/-- worth and hint of a state at a depth, without a cache -/
def wp : Nat → (Nat → Nat) → Nat → Nat × Int32
  | 0, _, _ => (0, -1)
  | d + 1, t, z => bestF (goN t) (fun to => gainT t to + (wp d (drawT (pushT t to) z) (nxt (nxt z))).1) 4
abbrev wv (d : Nat) (t : Nat → Nat) (z to : Nat) : Nat := gainT t to + (wp d (drawT (pushT t to) z) (nxt (nxt z))).1
theorem wp_s {d : Nat} {t : Nat → Nat} {z : Nat} : wp (d + 1) t z = bestF (goN t) (wv d t z) 4 := rfl
theorem bestF_s {go : Nat → Bool} {val : Nat → Nat} {k : Nat} (h : go k = false) : bestF go val (k + 1) = bestF go val k := by
  show (if go k = true then _ else _) = _
  rw [if_neg (by rw [h]; decide)]
theorem bestF_n {go : Nat → Bool} {val : Nat → Nat} {k : Nat} (h : go k = true) (hb : (bestF go val k).2 = -1 ∨ (bestF go val k).1 < val k) : bestF go val (k + 1) = (val k, nI k) := by
  show (if go k = true then _ else _) = _
  rw [if_pos h, if_pos hb]
theorem bestF_o {go : Nat → Bool} {val : Nat → Nat} {k : Nat} (h : go k = true) (hb : ¬ ((bestF go val k).2 = -1 ∨ (bestF go val k).1 < val k)) : bestF go val (k + 1) = bestF go val k := by
  show (if go k = true then _ else _) = _
  rw [if_pos h, if_neg hb]
theorem bestF_congr {go go' : Nat → Bool} {val val' : Nat → Nat} : ∀ {n : Nat}, (∀ k, k < n → go k = go' k ∧ val k = val' k) → bestF go val n = bestF go' val' n
  | 0, _ => rfl
  | n + 1, h => by
    unfold bestF
    rw [bestF_congr (n := n) (fun k hk => h k (by omega)), (h n (by omega)).1, (h n (by omega)).2]
theorem bestF_le {go : Nat → Bool} {val : Nat → Nat} {M : Nat} : ∀ {n : Nat}, (∀ k, k < n → go k = true → val k ≤ M) → (bestF go val n).1 ≤ M
  | 0, _ => Nat.zero_le _
  | n + 1, h => by
    unfold bestF
    split
    · split
      · exact h n (by omega) (by assumption)
      · exact bestF_le (fun k hk => h k (by omega))
    · exact bestF_le (fun k hk => h k (by omega))
theorem goN_congr {t u : Nat → Nat} (h : eq9 t u) {to : Nat} (hto : to < 4) : goN t to = goN u to := by
  have e : ∀ a b : Nat → Nat, eq9 a b → (goN a to = false → goN b to = false) := fun a b hab q => by
    rw [goN_iff] at q ⊢
    intro i hi
    rw [← pushT_congr hab hto, q i hi, hab i hi]
  cases hq : goN t to with
  | false => exact (e t u h hq).symm
  | true =>
    cases hr : goN u to with
    | true => rfl
    | false => exact absurd (e u t (fun i hi => (h i hi).symm) hr) (by rw [hq]; decide)
theorem wp_congr : ∀ {d : Nat} {t u : Nat → Nat} {z : Nat}, eq9 t u → wp d t z = wp d u z
  | 0, _, _, _, _ => rfl
  | d + 1, t, u, z, h => by
    show bestF _ _ 4 = bestF _ _ 4
    refine bestF_congr (fun k hk => ⟨goN_congr h hk, ?_⟩)
    rw [gainT_congr h hk, pushT_congr h hk]
theorem gn_le {q : Nat × Nat × Nat} (h1 : q.1 < 12) (h2 : q.2.1 < 12) : gn q ≤ 4096 := by
  unfold gn
  split
  · exact Nat.pow_le_pow_right (n := 2) (by decide) (show q.1 + 1 ≤ 12 by omega)
  · split
    · exact Nat.pow_le_pow_right (n := 2) (by decide) (show q.2.1 + 1 ≤ 12 by omega)
    · omega
theorem gat_lt2 {a b c n : Nat} (ha : a < n) (hb : b < n) (hc : c < n) : (gat a b c).1 < n ∧ (gat a b c).2.1 < n := by
  unfold gat
  split
  · split
    · exact ⟨hc, by show 0 < n; omega⟩
    · exact ⟨hb, hc⟩
  · split
    · exact ⟨ha, hc⟩
    · exact ⟨ha, hb⟩
theorem cO_lt3 {to i p : Nat} (hi : i < 3) (hp : p < 3) : cO to i p < 9 := by
  unfold cO
  split
  · omega
  · split
    · omega
    · split <;> omega
theorem gainT_le {t : Nat → Nat} (h : tl 12 t) (to : Nat) : gainT t to ≤ 12288 := by
  unfold gainT
  have g : ∀ i, i < 3 → gn (lineT t to i) ≤ 4096 := fun i hi => by
    have := gat_lt2 (h _ (cO_lt3 (to := to) hi (p := 0) (by decide))) (h _ (cO_lt3 (to := to) hi (p := 1) (by decide))) (h _ (cO_lt3 (to := to) hi (p := 2) (by decide)))
    exact gn_le this.1 this.2
  have := g 0 (by decide)
  have := g 1 (by decide)
  have := g 2 (by decide)
  omega
theorem tl12 {t : Nat → Nat} (h : wt t ≤ 4000) : tl 12 t := tl_of_wt (by omega) (by decide)
theorem tl31 {t : Nat → Nat} (h : wt t ≤ 4000) : tl 31 t := tl_mono (tl12 h) (by decide)
theorem wt_next {t : Nat → Nat} {to z : Nat} (hto : to < 4) : wt (drawT (pushT t to) z) ≤ wt t + 4 := by
  have := drawT_w (pushT t to) z
  rw [pushT_w t hto] at this
  exact this
theorem wp_le : ∀ {d : Nat} {t : Nat → Nat} {z : Nat}, wt t + 4 * d ≤ 4000 → (wp d t z).1 ≤ d * 12288
  | 0, _, _, _ => Nat.zero_le _
  | d + 1, t, z, h => by
    show (bestF _ _ 4).1 ≤ _
    refine bestF_le (fun k hk _ => ?_)
    have h1 := gainT_le (tl12 (t := t) (by omega)) k
    have h2 := wp_le (d := d) (t := drawT (pushT t k) z) (z := nxt (nxt z)) (by have := wt_next (t := t) (z := z) hk; omega)
    show gainT t k + _ ≤ _
    omega
theorem wv_le {d : Nat} {t : Nat → Nat} {z k : Nat} (h : wt t + 4 * (d + 1) ≤ 4000) (hk : k < 4) : wv d t z k ≤ (d + 1) * 12288 := by
  have h1 := gainT_le (tl12 (t := t) (by omega)) k
  have h2 := wp_le (d := d) (t := drawT (pushT t k) z) (z := nxt (nxt z)) (by have := wt_next (t := t) (z := z) hk; omega)
  show gainT t k + _ ≤ _
  omega
/-- a cache under search: entries, count, uses; hits, misses -/
abbrev SS : Type := (Nat → EV) × Int32 × Int32 × Int32 × Int32
def foldS (go : Nat → Bool) (st : Nat → SS → SS) : Nat → SS → SS
  | 0, S => S
  | k + 1, S => if go k = true then st k (foldS go st k S) else foldS go st k S
def useS (i : Nat) (S : SS) : SS := (updE S.1 i (setU (S.1 i) (S.2.2.1 + 1)), S.2.1, S.2.2.1 + 1, S.2.2.2.1 + 1, S.2.2.2.2)
def missS (S : SS) : SS := (S.1, S.2.1, S.2.2.1, S.2.2.2.1, S.2.2.2.2 + 1)
def putS (n : Nat) (rm : Int32) (b : Int64) (z d w p : Int32) (S : SS) : SS := ((putC n S.1 S.2.1 rm S.2.2.1 b z d w p).1, (putC n S.1 S.2.1 rm S.2.2.1 b z d w p).2.1, (putC n S.1 S.2.1 rm S.2.2.1 b z d w p).2.2, S.2.2.2.1, S.2.2.2.2)
/-- what a search of a state at a depth does to the cache -/
def trS (n : Nat) (rm : Int32) : Nat → (Nat → Nat) → Nat → SS → SS
  | 0, _, _, S => S
  | d + 1, t, z, S => match fstP (fun j => isFor (S.1 j) (b5 t) (nI z) (nI (d + 1))) n with
    | some i => useS i S
    | none => putS n rm (b5 t) (nI z) (nI (d + 1)) (nI (wp (d + 1) t z).1) (wp (d + 1) t z).2 (foldS (goN t) (fun to => trS n rm d (drawT (pushT t to) z) (nxt (nxt z))) 4 (missS S))
abbrev stS (n : Nat) (rm : Int32) (d : Nat) (t : Nat → Nat) (z to : Nat) : SS → SS := trS n rm d (drawT (pushT t to) z) (nxt (nxt z))
theorem trS_hit {n : Nat} {rm : Int32} {d : Nat} {t : Nat → Nat} {z i : Nat} {S : SS} (hi : i < n) (hp : isFor (S.1 i) (b5 t) (nI z) (nI (d + 1)) = true) (hj : ∀ j, j < i → isFor (S.1 j) (b5 t) (nI z) (nI (d + 1)) = false) : trS n rm (d + 1) t z S = useS i S := by
  unfold trS
  rw [fstP_some (P := fun j => isFor (S.1 j) (b5 t) (nI z) (nI (d + 1))) hp hj hi]
theorem trS_miss {n : Nat} {rm : Int32} {d : Nat} {t : Nat → Nat} {z : Nat} {S : SS} (hj : ∀ j, j < n → isFor (S.1 j) (b5 t) (nI z) (nI (d + 1)) = false) : trS n rm (d + 1) t z S = putS n rm (b5 t) (nI z) (nI (d + 1)) (nI (wp (d + 1) t z).1) (wp (d + 1) t z).2 (foldS (goN t) (stS n rm d t z) 4 (missS S)) := by
  rw [trS, fstP_none (P := fun j => isFor (S.1 j) (b5 t) (nI z) (nI (d + 1))) hj]
theorem foldS_s {go : Nat → Bool} {st : Nat → SS → SS} {k : Nat} {S : SS} (h : go k = false) : foldS go st (k + 1) S = foldS go st k S := by
  show (if go k = true then _ else _) = _
  rw [if_neg (by rw [h]; decide)]
theorem foldS_n {go : Nat → Bool} {st : Nat → SS → SS} {k : Nat} {S : SS} (h : go k = true) : foldS go st (k + 1) S = st k (foldS go st k S) := by
  show (if go k = true then _ else _) = _
  rw [if_pos h]
/-- an entry tells what the search without a cache finds -/
def eok (x : EV) : Prop := x.2.2.1 = 0 ∨ ∃ (t : Nat → Nat) (z d : Nat), 1 ≤ d ∧ d ≤ 4 ∧ z < 2 ^ 31 ∧ wt t + 4 * d ≤ 4000 ∧ x.1 = b5 t ∧ x.2.1 = nI z ∧ x.2.2.1 = nI d ∧ x.2.2.2.1 = nI (wp d t z).1 ∧ x.2.2.2.2.1 = (wp d t z).2
theorem isFor_iff {x : EV} {b : Int64} {z d : Int32} : isFor x b z d = true ↔ x.1 = b ∧ x.2.1 = z ∧ x.2.2.1 = d := by
  unfold isFor
  simp [and_assoc]
theorem eok_for {x : EV} {t : Nat → Nat} {z d : Nat} (h : eok x) (hf : isFor x (b5 t) (nI z) (nI d) = true) (hd : 1 ≤ d) (hd4 : d ≤ 4) (hz : z < 2 ^ 31) (hw : wt t ≤ 4000) : x.2.2.2.1 = nI (wp d t z).1 ∧ x.2.2.2.2.1 = (wp d t z).2 := by
  obtain ⟨f1, f2, f3⟩ := isFor_iff.mp hf
  rcases h with h | ⟨t', z', d', g1, g2, g3, g4, g5, g6, g7, g8, g9⟩
  · rw [f3] at h
    exact absurd h (nI_ne0 (by omega) (by omega))
  · have e1 : d' = d := (nI_eq (by omega) (by omega)).mp (g7.symm.trans f3)
    have e2 : z' = z := (nI_eq g3 hz).mp (g6.symm.trans f2)
    have e3 : eq9 t' t := (b5_inj (tl_mono (tl12 (t := t') (by omega)) (by decide)) (tl_mono (tl12 hw) (by decide))).mp (g5.symm.trans f1)
    subst e1 e2
    rw [g8, g9, wp_congr e3]
    exact ⟨rfl, rfl⟩
theorem eok_setU {x : EV} {u : Int32} (h : eok x) : eok (setU x u) := h
theorem eok_setP {x : EV} {u : Int32} (h : eok x) : eok (setP x u) := h
theorem eok_free {x : EV} : eok (setD x 0) := Or.inl rfl
theorem eok_upd {n i : Nat} {E : Nat → EV} {y : EV} (h : ∀ j, j < n → eok (E j)) (hy : eok y) : ∀ j, j < n → eok (updE E i y j) := fun j hj => by
  by_cases q : j = i
  · rw [q, updE_s]; exact hy
  · rw [updE_n q]; exact h j hj
theorem eok_drC {n : Nat} {q : (Nat → EV) × Int32} (h : ∀ j, j < n → eok (q.1 j)) : ∀ j, j < n → eok ((drC n q).1 j) := by
  unfold drC
  cases oldI q.1 n with
  | none => exact h
  | some o => exact eok_upd h eok_free
theorem eok_putT {n : Nat} {q : (Nat → EV) × Int32} {rm us : Int32} {b : Int64} {z d w p : Int32} (h : ∀ j, j < n → eok (q.1 j)) (hy : ∀ u pn, eok (b, z, d, w, p, u, pn)) : ∀ j, j < n → eok ((putT n q rm us b z d w p).1 j) := by
  unfold putT
  cases fstP (fun j => decide ((q.1 j).2.2.1 = 0)) n with
  | none => exact h
  | some i =>
    dsimp only
    split
    · exact h
    · exact eok_upd h (hy _ _)
theorem eok_putC {n : Nat} {E : Nat → EV} {cn rm us : Int32} {b : Int64} {z d w p : Int32} (h : ∀ j, j < n → eok (E j)) (hy : ∀ u pn, eok (b, z, d, w, p, u, pn)) : ∀ j, j < n → eok ((putC n E cn rm us b z d w p).1 j) := by
  rw [putC_eq]
  split
  · exact eok_putT h hy
  · exact eok_putT (eok_drC h) hy
theorem eok_new {d : Nat} {t : Nat → Nat} {z : Nat} (hd : 1 ≤ d) (hd4 : d ≤ 4) (hz : z < 2 ^ 31) (hw : wt t + 4 * d ≤ 4000) (u pn : Int32) : eok (b5 t, nI z, nI d, nI (wp d t z).1, (wp d t z).2, u, pn) := Or.inr ⟨t, z, d, hd, hd4, hz, hw, rfl, rfl, rfl, rfl, rfl⟩
def sS (se c n : Nat) (en : Nat → Nat) : Nat → Prop := fun q => q = se ∨ cS c n en q
