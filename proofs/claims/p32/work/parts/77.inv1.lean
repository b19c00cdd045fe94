/-! what both keep: sums, bounds, searches -/
section I32
theorem i3_a (a b p : Int32) : a + b + p = a + p + b := by rw [Int32.add_assoc, Int32.add_comm b, ← Int32.add_assoc]
theorem i3_s (a p : Int32) : a + p - p = a := by rw [Int32.sub_eq_add_neg, Int32.add_assoc, Int32.add_right_neg, Int32.add_zero]
theorem i3_m (a b p : Int32) : a - b - p = a - (b + p) := by rw [Int32.sub_eq_add_neg, Int32.sub_eq_add_neg, Int32.sub_eq_add_neg, Int32.neg_add, Int32.sub_eq_add_neg, Int32.add_assoc]
theorem i3_p (a b p : Int32) : a - b + p = a - (b - p) := by
  have h : a - b + p = a - (b - p + p) + p := by rw [Int32.sub_add_cancel]
  rw [h, ← i3_m, Int32.sub_add_cancel]
theorem i3_b (a b p : Int32) : a - p + b = a + b - p := by rw [Int32.sub_eq_add_neg, Int32.sub_eq_add_neg, i3_a]
theorem i6_a (a b p : Int64) : a + b + p = a + p + b := by rw [Int64.add_assoc, Int64.add_comm b, ← Int64.add_assoc]
end I32
section SUMS
variable {gs gs' : Nat → GS} {j : Nat}
theorem sumP_congr : ∀ {n : Nat}, (∀ i, i < n → (gs' i).1 = (gs i).1 ∧ (gs' i).2.2.2.2.2.2.2.1 = (gs i).2.2.2.2.2.2.2.1 ∧ (gs' i).2.2.2.2.2.2.2.2 = (gs i).2.2.2.2.2.2.2.2) → sumP gs' j n = sumP gs j n
  | 0, _ => rfl
  | n + 1, h => by
    obtain ⟨h1, h2, h3⟩ := h n (by omega)
    unfold sumP
    rw [sumP_congr (n := n) (fun i hi => h i (by omega)), h1, h2, h3]
theorem sumV_congr : ∀ {n : Nat}, (∀ i, i < n → (gs' i).2.2.2.2.2.2.2.1 = (gs i).2.2.2.2.2.2.2.1 ∧ (gs' i).2.2.2.2.2.2.2.2 = (gs i).2.2.2.2.2.2.2.2) → sumV gs' n = sumV gs n
  | 0, _ => rfl
  | n + 1, h => by
    obtain ⟨h2, h3⟩ := h n (by omega)
    unfold sumV
    rw [sumV_congr (n := n) (fun i hi => h i (by omega)), h2, h3]
theorem sumP_none : ∀ {n : Nat}, (∀ i, i < n → (gs i).1 ≠ j) → sumP gs j n = 0
  | 0, _ => rfl
  | n + 1, h => by
    unfold sumP
    rw [if_neg (fun z => h n (by omega) z.1)]
    exact sumP_none (fun i hi => h i (by omega))
theorem setG_lt {i n : Nat} {y : GS} (hn : n ≤ i) : ∀ k, k < n → setG gs i y k = gs k := fun k hk => setG_n (by omega)
theorem sumP_pay {i : Nat} {y : GS} {p : Int32} (h1 : y.1 = (gs i).1) (h2 : y.2.2.2.2.2.2.2.1 = (gs i).2.2.2.2.2.2.2.1 + p) (h3 : y.2.2.2.2.2.2.2.2 = false) (h4 : (gs i).2.2.2.2.2.2.2.2 = false) : ∀ {n : Nat}, i < n → sumP (setG gs i y) j n = sumP gs j n + (if j = (gs i).1 then p else 0)
  | 0, hi => absurd hi (Nat.not_lt_zero _)
  | n + 1, hi => by
    unfold sumP
    by_cases q : i = n
    · subst q
      rw [setG_s, sumP_congr (gs := gs) (gs' := setG gs i y) (n := i) (fun k hk => by rw [setG_lt (Nat.le_refl _) k hk]; exact ⟨rfl, rfl, rfl⟩), h1, h2, h3, h4]
      by_cases e : (gs i).1 = j
      · rw [if_pos ⟨e, rfl⟩, if_pos ⟨e, rfl⟩, if_pos e.symm, Int32.add_assoc]
      · rw [if_neg (fun z => e z.1), if_neg (fun z => e z.1), if_neg (fun z => e z.symm), Int32.add_zero]
    · rw [setG_n (fun z => q z.symm), sumP_pay h1 h2 h3 h4 (n := n) (by omega)]
      split
      · rw [i3_a]
      · rfl
theorem sumP_void {i : Nat} {y : GS} (h1 : y.1 = (gs i).1) (h3 : y.2.2.2.2.2.2.2.2 = true) (h4 : (gs i).2.2.2.2.2.2.2.2 = false) : ∀ {n : Nat}, i < n → sumP (setG gs i y) j n = sumP gs j n - (if j = (gs i).1 then (gs i).2.2.2.2.2.2.2.1 else 0)
  | 0, hi => absurd hi (Nat.not_lt_zero _)
  | n + 1, hi => by
    unfold sumP
    by_cases q : i = n
    · subst q
      rw [setG_s, sumP_congr (gs := gs) (gs' := setG gs i y) (n := i) (fun k hk => by rw [setG_lt (Nat.le_refl _) k hk]; exact ⟨rfl, rfl, rfl⟩), h1, h3, h4]
      rw [if_neg (fun z => by cases z.2)]
      by_cases e : (gs i).1 = j
      · rw [if_pos ⟨e, rfl⟩, if_pos e.symm, i3_s]
      · rw [if_neg (fun z => e z.1), if_neg (fun z => e z.symm), Int32.sub_zero]
    · rw [setG_n (fun z => q z.symm), sumP_void h1 h3 h4 (n := n) (by omega)]
      split
      · rw [i3_b]
      · rfl
theorem sumV_void {i : Nat} {y : GS} (h2 : y.2.2.2.2.2.2.2.1 = (gs i).2.2.2.2.2.2.2.1) (h3 : y.2.2.2.2.2.2.2.2 = true) (h4 : (gs i).2.2.2.2.2.2.2.2 = false) : ∀ {n : Nat}, i < n → sumV (setG gs i y) n = sumV gs n + (gs i).2.2.2.2.2.2.2.1.toInt64
  | 0, hi => absurd hi (Nat.not_lt_zero _)
  | n + 1, hi => by
    unfold sumV
    by_cases q : i = n
    · subst q
      rw [setG_s, sumV_congr (gs := gs) (gs' := setG gs i y) (n := i) (fun k hk => by rw [setG_lt (Nat.le_refl _) k hk]; exact ⟨rfl, rfl⟩), h2, h3, h4]
      rw [if_pos rfl, if_neg (fun z => by cases z), Int64.add_zero]
    · rw [setG_n (fun z => q z.symm), sumV_void h2 h3 h4 (n := n) (by omega), i6_a]
theorem sumV_pay {i : Nat} {y : GS} (h3 : y.2.2.2.2.2.2.2.2 = false) (h4 : (gs i).2.2.2.2.2.2.2.2 = false) : ∀ {n : Nat}, sumV (setG gs i y) n = sumV gs n
  | 0 => rfl
  | n + 1 => by
    unfold sumV
    rw [sumV_pay h3 h4 (n := n)]
    by_cases q : n = i
    · subst q; rw [setG_s, h3, h4, if_neg (fun z => by cases z), if_neg (fun z => by cases z)]
    · rw [setG_n q]
end SUMS
/-! searches: entries stay right; hits and misses are few -/
theorem foldS_inv {go : Nat → Bool} {st : Nat → SS → SS} (P : SS → Prop) {S : SS} (h : P S) : ∀ {n : Nat}, (∀ k, k < n → ∀ S', P S' → P (st k S')) → P (foldS go st n S)
  | 0, _ => h
  | n + 1, hs => by
    have ih := foldS_inv (go := go) P h (n := n) (fun k hk => hs k (by omega))
    unfold foldS
    split
    · exact hs n (by omega) _ ih
    · exact ih
theorem trS_eok {n : Nat} {rm : Int32} : ∀ {d : Nat} {t : Nat → Nat} {z : Nat} {S : SS}, d ≤ 4 → z < 2 ^ 31 → wt t + 4 * d ≤ 4000 → (∀ j, j < n → eok (S.1 j)) → ∀ j, j < n → eok ((trS n rm d t z S).1 j)
  | 0, _, _, _, _, _, _, h => h
  | d + 1, t, z, S, hd, hz, hw, h => by
    rw [trS]
    cases hf : fstP (fun j => isFor (S.1 j) (b5 t) (nI z) (nI (d + 1))) n with
    | some i => exact eok_upd h (eok_setU (h i (fstP_spec hf).1))
    | none =>
      have hfold : ∀ j, j < n → eok ((foldS (goN t) (stS n rm d t z) 4 (missS S)).1 j) := foldS_inv (fun S => ∀ j, j < n → eok (S.1 j)) (show ∀ j, j < n → eok ((missS S).1 j) from h) (fun k hk S' h' => trS_eok (by omega) (nxt_lt _) (by have := wt_next (t := t) (z := z) hk; omega) h')
      exact eok_putC hfold (fun u pn => eok_new (by omega) hd hz hw u pn)
def cN : Nat → Nat
  | 0 => 0
  | d + 1 => 4 * cN d + 1
/-- hits and misses of M' are those of M and at most k more in all -/
def few (k : Nat) (M M' : MT) : Prop := ∃ h m : Nat, h + m ≤ k ∧ M'.2.2.2.1 = M.2.2.2.1 + nI h ∧ M'.2.2.2.2 = M.2.2.2.2 + nI m
theorem few.tr {a b : Nat} {M M' M'' : MT} (h1 : few a M M') (h2 : few b M' M'') : few (a + b) M M'' := by
  obtain ⟨h, m, g1, g2, g3⟩ := h1
  obtain ⟨h', m', k1, k2, k3⟩ := h2
  exact ⟨h + h', m + m', by omega, by rw [k2, g2, Int32.add_assoc, nI_add], by rw [k3, g3, Int32.add_assoc, nI_add]⟩
theorem few.rf {k : Nat} {M M' : MT} (h1 : M'.2.2.2.1 = M.2.2.2.1) (h2 : M'.2.2.2.2 = M.2.2.2.2) : few k M M' := ⟨0, 0, by omega, by rw [h1]; exact (Int32.add_zero _).symm, by rw [h2]; exact (Int32.add_zero _).symm⟩
theorem foldM_few {go : Nat → Bool} {st : Nat → MT → MT} {a : Nat} {M : MT} : ∀ {n : Nat}, (∀ k, k < n → ∀ M', few a M' (st k M')) → few (a * n) M (foldM go st n M)
  | 0, _ => few.rf rfl rfl
  | n + 1, hs => by
    have ih := foldM_few (go := go) (M := M) (n := n) (fun k hk => hs k (by omega))
    unfold foldM
    rw [Nat.mul_succ]
    split
    · exact ih.tr (hs n (by omega) _)
    · obtain ⟨h, m, g1, g2, g3⟩ := ih
      exact ⟨h, m, by omega, g2, g3⟩
theorem trM_few {cb : Bool} {rr : Nat} : ∀ {d : Nat} {t : Nat → Nat} {z : Nat} {M : MT}, few (cN d) M (trM cb rr d t z M)
  | 0, _, _, _ => few.rf rfl rfl
  | d + 1, t, z, M => by
    rw [trM]
    cases hf : fstM cb (fun j => isFor (M.1 j) (b4 t) (nI z) (nI (d + 1))) M.2.1 with
    | some i => exact ⟨1, 0, by unfold cN; omega, rfl, (Int32.add_zero _).symm⟩
    | none =>
      have h1 : few 1 M (missM M) := ⟨0, 1, by omega, (Int32.add_zero _).symm, rfl⟩
      have h2 := h1.tr (foldM_few (go := goN t) (st := fun to => trM cb rr d (drawT (pushT t to) z) (nxt (nxt z))) (M := missM M) (n := 4) (fun k hk M' => trM_few))
      obtain ⟨h, m, g1, g2, g3⟩ := h2
      refine ⟨h, m, by unfold cN; omega, ?_, ?_⟩
      · cases cb with
        | false => exact g2
        | true => exact g2
      · cases cb with
        | false => exact g3
        | true => exact g3
theorem cN_4 {d : Nat} (h : d ≤ 4) : cN d ≤ 341 := by
  rcases (by omega : d = 0 ∨ d = 1 ∨ d = 2 ∨ d = 3 ∨ d = 4) with rfl | rfl | rfl | rfl | rfl <;> decide
theorem clk_4 {d : Nat} (h : d ≤ 4) : clk d ≤ 341 := by
  rcases (by omega : d = 0 ∨ d = 1 ∨ d = 2 ∨ d = 3 ∨ d = 4) with rfl | rfl | rfl | rfl | rfl <;> decide
section INVs
variable {n : Nat} {K : Nat → EV} {kp : Nat} {ck msh msm mso : Int32} {mf : Nat → Int32} {E : Nat → EV} {cn us : Int32} {so sh sm : Int64} {np : Nat} {mon : Nat → Int32} {ng : Nat} {gs : Nat → GS} {nt : Nat} {ts : Nat → TR} {lim : Int32} {rf sp : Int64} {rr : Nat}
theorem INV.mono (h : INV n K kp ck msh msm mso mf E cn us so sh sm np mon ng gs nt ts lim rf sp rr) : INV (n + 1) K kp ck msh msm mso mf E cn us so sh sm np mon ng gs nt ts lim rf sp rr := by
  obtain ⟨hb, hg, hd, ht, hs, ⟨h1, ⟨c, c1, c2, c3, c4⟩, h2⟩, h3⟩ := h
  exact ⟨hb, fun i hi => ⟨(hg i hi).1, by have := (hg i hi).2.1; omega, (hg i hi).2.2⟩, hd, ht, hs, ⟨h1, ⟨c, c1, c2, by omega, c4⟩, h2⟩, h3⟩
theorem INV.gok (h : INV n K kp ck msh msm mso mf E cn us so sh sm np mon ng gs nt ts lim rf sp rr) (hn : n ≤ 512) : GOK np ng gs := fun i hi => by
  obtain ⟨hb, hg, -⟩ := h
  exact ⟨(hg i hi).1, by have := (hg i hi).2.1; omega, (hg i hi).2.2⟩
end INVs

