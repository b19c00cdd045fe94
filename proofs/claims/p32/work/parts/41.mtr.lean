/-! what the model's search does to its cache -/
abbrev MT : Type := (Nat → EV) × Nat × Int32 × Int32 × Int32
def missM (S : MT) : MT := (S.1, S.2.1, S.2.2.1, S.2.2.2.1, S.2.2.2.2 + 1)
def useM (i : Nat) (S : MT) : MT := (setK S.1 i (setU (S.1 i) (S.2.2.1 + 1)), S.2.1, S.2.2.1 + 1, S.2.2.2.1 + 1, S.2.2.2.2)
def keepT (cb : Bool) (rr : Nat) (b : Int64) (z d w h : Int32) (S : MT) : MT := if cb = true then ((keepM rr (S.1, S.2.1, S.2.2.1) b z d w h).1, (keepM rr (S.1, S.2.1, S.2.2.1) b z d w h).2.1, (keepM rr (S.1, S.2.1, S.2.2.1) b z d w h).2.2, S.2.2.2.1, S.2.2.2.2) else S
def foldM (go : Nat → Bool) (st : Nat → MT → MT) : Nat → MT → MT
  | 0, S => S
  | k + 1, S => if go k = true then st k (foldM go st k S) else foldM go st k S
theorem foldM_s {go : Nat → Bool} {st : Nat → MT → MT} {k : Nat} {S : MT} (h : go k = false) : foldM go st (k + 1) S = foldM go st k S := by
  show (if go k = true then _ else _) = _
  rw [if_neg (by rw [h]; decide)]
theorem foldM_n {go : Nat → Bool} {st : Nat → MT → MT} {k : Nat} {S : MT} (h : go k = true) : foldM go st (k + 1) S = st k (foldM go st k S) := by
  show (if go k = true then _ else _) = _
  rw [if_pos h]
def fstM (cb : Bool) (P : Nat → Bool) (n : Nat) : Option Nat := if cb = true then fstP P n else none
def trM (cb : Bool) (rr : Nat) : Nat → (Nat → Nat) → Nat → MT → MT
  | 0, _, _, S => S
  | d + 1, t, z, S => match fstM cb (fun j => isFor (S.1 j) (b4 t) (nI z) (nI (d + 1))) S.2.1 with
    | some i => useM i S
    | none => keepT cb rr (b4 t) (nI z) (nI (d + 1)) (nI (wp (d + 1) t z).1) (wp (d + 1) t z).2 (foldM (goN t) (fun to => trM cb rr d (drawT (pushT t to) z) (nxt (nxt z))) 4 (missM S))
abbrev stM (cb : Bool) (rr d : Nat) (t : Nat → Nat) (z to : Nat) : MT → MT := trM cb rr d (drawT (pushT t to) z) (nxt (nxt z))
theorem trM_hit {rr d : Nat} {t : Nat → Nat} {z i : Nat} {S : MT} (hi : i < S.2.1) (hp : isFor (S.1 i) (b4 t) (nI z) (nI (d + 1)) = true) (hj : ∀ j, j < i → isFor (S.1 j) (b4 t) (nI z) (nI (d + 1)) = false) : trM true rr (d + 1) t z S = useM i S := by
  rw [trM, fstM, if_pos rfl, fstP_some (P := fun j => isFor (S.1 j) (b4 t) (nI z) (nI (d + 1))) hp hj hi]
theorem trM_miss {cb : Bool} {rr d : Nat} {t : Nat → Nat} {z : Nat} {S : MT} (hj : cb = true → ∀ j, j < S.2.1 → isFor (S.1 j) (b4 t) (nI z) (nI (d + 1)) = false) : trM cb rr (d + 1) t z S = keepT cb rr (b4 t) (nI z) (nI (d + 1)) (nI (wp (d + 1) t z).1) (wp (d + 1) t z).2 (foldM (goN t) (stM cb rr d t z) 4 (missM S)) := by
  rw [trM, fstM]
  cases cb with
  | false => rfl
  | true => rw [if_pos rfl, fstP_none (P := fun j => isFor (S.1 j) (b4 t) (nI z) (nI (d + 1))) (hj rfl)]
def mok (x : EV) : Prop := ∃ (t : Nat → Nat) (z d : Nat), 1 ≤ d ∧ d ≤ 4 ∧ z < 2 ^ 31 ∧ wt t + 4 * d ≤ 4000 ∧ x.1 = b4 t ∧ x.2.1 = nI z ∧ x.2.2.1 = nI d ∧ x.2.2.2.1 = nI (wp d t z).1 ∧ x.2.2.2.2.1 = (wp d t z).2
theorem mok_for {x : EV} {t : Nat → Nat} {z d : Nat} (h : mok x) (hf : isFor x (b4 t) (nI z) (nI d) = true) (hd4 : d ≤ 4) (hz : z < 2 ^ 31) (hw : wt t ≤ 4000) : x.2.2.2.1 = nI (wp d t z).1 ∧ x.2.2.2.2.1 = (wp d t z).2 := by
  obtain ⟨f1, f2, f3⟩ := isFor_iff.mp hf
  obtain ⟨t', z', d', g1, g2, g3, g4, g5, g6, g7, g8, g9⟩ := h
  have e1 : d' = d := (nI_eq (by omega) (by omega)).mp (g7.symm.trans f3)
  have e2 : z' = z := (nI_eq g3 hz).mp (g6.symm.trans f2)
  have e3 : eq9 t' t := (b4_inj (tl_mono (tl12 (t := t') (by omega)) (by decide)) (tl_mono (tl12 hw) (by decide))).mp (g5.symm.trans f1)
  subst e1 e2
  rw [g8, g9, wp_congr e3]
  exact ⟨rfl, rfl⟩
def mokA (rr : Nat) (S : MT) : Prop := S.2.1 ≤ rr ∧ ∀ j, j < S.2.1 → mok (S.1 j)
theorem mok_set {K : Nat → EV} {n e : Nat} {y : EV} (h : ∀ j, j < n → mok (K j)) (hy : mok y) : ∀ j, j < n → mok (setK K e y j) := fun j hj => by
  unfold setK
  split
  · exact hy
  · exact h j hj
theorem mok_add {rr : Nat} {q : MS} {b : Int64} {z d w h : Int32} (h0 : q.2.1 < rr) (h1 : ∀ j, j < q.2.1 → mok (q.1 j)) (hy : ∀ u, mok (b, z, d, w, h, u, 0)) : (addM q b z d w h).2.1 ≤ rr ∧ ∀ j, j < (addM q b z d w h).2.1 → mok ((addM q b z d w h).1 j) := by
  refine ⟨h0, fun j hj => ?_⟩
  show mok (setK q.1 q.2.1 _ j)
  unfold setK
  split
  · exact hy _
  · rename_i hne
    have : j < q.2.1 + 1 := hj
    exact h1 j (by omega)
theorem mok_keep {rr : Nat} {q : MS} {b : Int64} {z d w h : Int32} (h0 : q.2.1 ≤ rr) (h1 : ∀ j, j < q.2.1 → mok (q.1 j)) (hy : ∀ u, mok (b, z, d, w, h, u, 0)) : (keepM rr q b z d w h).2.1 ≤ rr ∧ ∀ j, j < (keepM rr q b z d w h).2.1 → mok ((keepM rr q b z d w h).1 j) := by
  by_cases hn : q.2.1 = rr
  · cases ho : oldM q.1 q.2.1 with
    | none => rw [keepM_no hn ho]; exact ⟨h0, h1⟩
    | some o =>
      have hlt := oldM_lt ho
      rw [keepM_drop hn ho]
      exact mok_add (q := (setK q.1 o (q.1 (q.2.1 - 1)), q.2.1 - 1, q.2.2)) (show q.2.1 - 1 < rr by omega) (fun j hj => mok_set (n := q.2.1) h1 (h1 _ (by omega)) j (by have : j < q.2.1 - 1 := hj; omega)) hy
  · rw [keepM_add hn]
    exact mok_add (by omega) h1 hy
theorem mok_keepT {cb : Bool} {rr : Nat} {S : MT} {b : Int64} {z d w h : Int32} (h0 : mokA rr S) (hy : ∀ u, mok (b, z, d, w, h, u, 0)) : mokA rr (keepT cb rr b z d w h S) := by
  cases cb with
  | false => exact h0
  | true => exact mok_keep (q := (S.1, S.2.1, S.2.2.1)) h0.1 h0.2 hy
theorem mok_new {d : Nat} {t : Nat → Nat} {z : Nat} (hd : 1 ≤ d) (hd4 : d ≤ 4) (hz : z < 2 ^ 31) (hw : wt t + 4 * d ≤ 4000) (u : Int32) : mok (b4 t, nI z, nI d, nI (wp d t z).1, (wp d t z).2, u, 0) := ⟨t, z, d, hd, hd4, hz, hw, rfl, rfl, rfl, rfl, rfl⟩
theorem foldM_ok {rr : Nat} {go : Nat → Bool} {st : Nat → MT → MT} {S : MT} (h0 : mokA rr S) : ∀ {n : Nat}, (∀ k, k < n → ∀ S', mokA rr S' → mokA rr (st k S')) → mokA rr (foldM go st n S)
  | 0, _ => h0
  | n + 1, h => by
    have ih := foldM_ok (go := go) h0 (n := n) (fun k hk => h k (by omega))
    unfold foldM
    split
    · exact h n (by omega) _ ih
    · exact ih
theorem trM_ok {cb : Bool} {rr : Nat} : ∀ {d : Nat} {t : Nat → Nat} {z : Nat} {S : MT}, d ≤ 4 → z < 2 ^ 31 → wt t + 4 * d ≤ 4000 → mokA rr S → mokA rr (trM cb rr d t z S)
  | 0, _, _, _, _, _, _, h => h
  | d + 1, t, z, S, hd, hz, hw, h => by
    rw [trM]
    cases hf : fstM cb (fun j => isFor (S.1 j) (b4 t) (nI z) (nI (d + 1))) S.2.1 with
    | some i =>
      have hi : i < S.2.1 := by
        unfold fstM at hf
        split at hf
        · exact (fstP_spec hf).1
        · cases hf
      exact ⟨h.1, mok_set h.2 (h.2 i hi)⟩
    | none =>
      refine mok_keepT (foldM_ok (show mokA rr (missM S) from h) (fun k hk S' h' => ?_)) (mok_new (by omega) hd hz hw)
      exact trM_ok (by omega) (nxt_lt _) (by have := wt_next (t := t) (z := z) hk; omega) h'
theorem cntE_zero {t : Nat → Nat} : ∀ {n : Nat}, cntE t n = 0 → ∀ i, i < n → t i ≠ 0
  | 0, _, i, hi => absurd hi (Nat.not_lt_zero _)
  | n + 1, h, i, hi => by
    have h1 : cntE t n + (if t n = 0 then 1 else 0) = 0 := h
    by_cases q : t n = 0
    · rw [if_pos q] at h1; omega
    · by_cases e : i = n
      · rw [e]; exact q
      · exact cntE_zero (n := n) (by omega) i (by omega)
theorem mg_full {a b c : Nat} (h : (mg (gat a b c)).2.2 ≠ 0) : mg (gat a b c) = (a, b, c) := by
  by_cases ha : a = 0
  · by_cases hb : b = 0
    · exfalso; apply h; simp [gat, mg, ha, hb]
    · exfalso; apply h
      simp only [gat, if_pos ha, if_neg hb, mg]
      split
      · rfl
      · split <;> rfl
  · by_cases hb : b = 0
    · exfalso; apply h
      simp only [gat, if_neg ha, if_pos hb, mg]
      split
      · rfl
      · split <;> rfl
    · have e : gat a b c = (a, b, c) := by simp only [gat, if_neg ha, if_neg hb]
      rw [e] at h ⊢
      unfold mg at h ⊢
      split
      · rename_i q; exfalso; apply h; rw [if_pos q]
      · rename_i q
        split
        · rename_i q2; exfalso; apply h; rw [if_neg q, if_pos q2]
        · rfl
theorem push_gap {t : Nat → Nat} {to : Nat} (hto : to < 4) (h : goN t to = true) : cntE (pushT t to) 9 ≠ 0 := by
  intro h0
  have hz := cntE_zero h0
  have e9 : eq9 (pushT t to) t := by
    intro c hc
    obtain ⟨g1, g2, g3⟩ := iO_lt to hto c hc
    have n2 := hz _ (cO_lt to hto _ g1 2 (by decide))
    rw [pushT_at t hto g1 (by decide)] at n2
    have hm := mg_full (a := t (cO to (iO to c) 0)) (b := t (cO to (iO to c) 1)) (c := t (cO to (iO to c) 2)) n2
    have e := pushT_at t hto g1 g2
    rw [g3] at e
    rw [e]
    show at3 (mg (gat _ _ _)) _ = _
    rw [hm]
    rcases (by omega : pO to c = 0 ∨ pO to c = 1 ∨ pO to c = 2) with q | q | q
    · rw [q] at g3 ⊢; exact congrArg t g3
    · rw [q] at g3 ⊢; exact congrArg t g3
    · rw [q] at g3 ⊢; exact congrArg t g3
  rw [goN_iff.mpr e9] at h
  cases h
def wS (m0 : Nat) (r : Nat → Nat) : Nat → Prop := fun q => q = m0 ∨ ∃ k, 14 ≤ k ∧ k ≤ 27 ∧ q = r k
theorem kS_w {m0 : Nat} {r : Nat → Nat} {q : Nat} (h : kS m0 r q) : wS m0 r q := h.imp id (fun ⟨k, h1, h2, h3⟩ => ⟨k, h1, by omega, h3⟩)
theorem upd_s {f : Nat → Int32} {k : Nat} {v : Int32} : upd f k v k = v := if_pos rfl
theorem upd_n {f : Nat → Int32} {k j : Nat} {v : Int32} (h : j ≠ k) : upd f k v j = f j := if_neg h
theorem updL_s {f : Nat → Int64} {k : Nat} {v : Int64} : vp_updL f k v k = v := if_pos rfl
theorem updL_n {f : Nat → Int64} {k j : Nat} {v : Int64} (h : j ≠ k) : vp_updL f k v j = f j := if_neg h

