theorem kset_p {α : Type} (p : EV → α) {K : Nat → EV} {i : Nat} {y : EV} (h : p y = p (K i)) : (fun j => p (K j)) = fun j => p (setK K i y j) := by
  funext j
  unfold setK
  split
  · rename_i q; rw [q, h]
  · rfl
theorem lev_p (L : Nat) : nI (L + 1) + (-1) = nI L := by rw [← nI_1 L, Int32.add_assoc]; exact Int32.add_zero _
/-! the model: priceOf -/
section CT
variable {p : Program} {l : Launch} {e : Env} {R : Room} {s : State} {m : MethodId} {args : Array Value} {below : List Frame} {meth : Method} {c : Code} {H : Heap} {locs : List Loc} {cells slots : Nat} {Q : State → Prop}
variable {cc : ByteArray} {pc nL : Nat} {ls : Array Slot} {rest : List Value} {Γ : Gm} {f : Hm} {a : Nat}
end CT
theorem mix_fun {α : Type} (p : EV → α) (A B : Nat → EV) (i : Nat) {g : Nat → α} (hg : g = fun j => p (mixE A B i j)) : (fun j => if j = i then p (A i) else g j) = fun j => p (mixE A B (i + 1) j) := by
  funext j
  rw [hg, ← mixE_s]
  unfold updE
  dsimp only
  split <;> rfl
/-! the model: pins -/
theorem b_one : ∀ i, i < 32 → bt 1 i = decide (i = 0) := by decide +kernel
theorem m_pin1 (p : Int32) {g : Nat} (hg : g < 32) : (p >>> (nI g &&& 31)) &&& 1 = bI (bt p g) := by
  apply b_ext
  intro i hi
  rw [b_and, b_sshr g hg p hi, b_one i hi]
  by_cases q : i = 0
  · subst q
    rw [if_pos (by omega), Nat.add_zero]
    cases bt p g with
    | true => show (true && _) = bt 1 0; rw [b_one 0 (by decide)]; rfl
    | false => show (false && _) = bt 0 0; rw [b_0]; rfl
  · rw [decide_eq_false q, Bool.and_false]
    cases bt p g with
    | true => show _ = bt 1 i; rw [b_one i hi, decide_eq_false q]
    | false => show _ = bt 0 i; rw [b_0]
theorem m_pin2 (p : Int32) {g : Nat} (hg : g < 32) : decide (p &&& (1 <<< (nI g &&& 31)) ≠ 0) = bt p g := by
  have hb : ∀ i, i < 32 → bt (p &&& (1 <<< (nI g &&& 31))) i = (bt p i && decide (i = g)) := fun i hi => by
    rw [b_and, b_shl g hg 1 hi]
    by_cases q : g ≤ i
    · rw [decide_eq_true q, Bool.true_and, b_one _ (by omega)]
      congr 1
      exact decide_eq_decide.mpr ⟨fun z => by omega, fun z => by omega⟩
    · rw [decide_eq_false q, decide_eq_false (show ¬ i = g by omega)]
      rfl
  cases hq : bt p g with
  | true =>
    refine decide_eq_true (fun z => ?_)
    have := hb g hg
    rw [z, b_0, hq, decide_eq_true rfl] at this
    cases this
  | false =>
    refine decide_eq_false (fun z => z (b_ext (fun i hi => ?_)))
    rw [hb i hi, b_0]
    by_cases q : i = g
    · rw [q, hq]; rfl
    · rw [decide_eq_false q, Bool.and_false]
theorem cnt_bit {P : Nat → Bool} {i : Nat} : nI (cntP P i) + bI (P i) = nI (cntP P (i + 1)) := by
  show _ = nI (cntP P i + (if P i = true then 1 else 0))
  cases P i with
  | true => exact nI_1 _
  | false => exact Int32.add_zero _
/-! the model: a game's pins are taken away -/
theorem mix_keep {α : Type} (p : EV → α) {A B : Nat → EV} {i : Nat} (h : ∀ j, p (A j) = p (B j)) : (fun j => p (B j)) = fun j => p (mixE A B i j) := by
  funext j
  unfold mixE
  split
  · exact (h j).symm
  · rfl
def unpK (K : Nat → EV) (g : Nat) : Nat → EV := fun j => setP (K j) ((K j).2.2.2.2.2.2 &&& (1 <<< (nI g &&& 31) ^^^ (-1)))
/-! the model: does a push follow a hint -/
theorem bI_or (a b : Bool) : bI a ||| bI b = bI (a || b) := by cases a <;> cases b <;> decide
abbrev txs (tp : Nat → Int32) (tb : Nat → Int64) (tz tu : Nat → Int32) : Nat → TX := fun j => (tp j, tb j, tz j, tu j)
/-! the model: depths, limits -/
def inR (v lo hi : Int32) : Bool := decide (lo ≤ v) && decide (v ≤ hi)
/-! the model: calls over its world -/
theorem m_4k3 (k : Nat) : 3 * nI k = nI (3 * k) := by rw [show (3 : Int32) = nI 3 from rfl, pk_mul]
theorem fI_none {P : Nat → Bool} {n : Nat} (h : ∀ j, j < n → P j = false) : (fstP P n).isSome = false := by rw [fstP_none h]; rfl
theorem fI_some {P : Nat → Bool} {n i : Nat} (hi : i < n) (hp : P i = true) (hj : ∀ j, j < i → P j = false) : fstP P n = some i := fstP_some hp hj hi
theorem dep_inR {v : Int32} (h : inR v 1 4 = true) : ∃ d, (1 ≤ d ∧ d ≤ 4) ∧ v = nI d := by
  unfold inR at h
  obtain ⟨h1, h2⟩ := (Bool.and_eq_true _ _).mp h
  obtain ⟨d, a, b, c⟩ := dep_in (v := v) (a := 1) (Int32.not_lt.mpr (of_decide_eq_true h1)) (by decide) (of_decide_eq_true h2)
  exact ⟨d, ⟨a, b⟩, c⟩
theorem inB_no {v : Int32} {n : Nat} (hn : n < 2 ^ 31) (h : ∀ i, i < n → v ≠ nI i) : inB v (nI n) = false := by
  cases hq : inB v (nI n) with
  | false => rfl
  | true => obtain ⟨i, hi, e⟩ := (inB_iff hn).mp hq; exact absurd e (h i hi)
theorem inB_yes {i n : Nat} (hn : n < 2 ^ 31) (hi : i < n) : inB (nI i) (nI n) = true := (inB_iff hn).mpr ⟨i, hi, rfl⟩
/-! the model's making -/
def K0 : Nat → EV := fun _ => (0, 0, 0, 0, 0, 0, 0)
