/-! the model: its object; boards as it keeps them -/
abbrev eM (r : Nat → Nat) (mth mpl mga mtr mke mro mck mli mdz mgd mhi mmi mfh msh msm mso : Int32) (msp mrf : Int64) : va_E := eR 8 [.ref (r 0), .ref (r 1), .ref (r 2), .ref (r 3), .ref (r 4), .ref (r 5), .ref (r 6), .ref (r 7), .ref (r 8), .ref (r 9), .ref (r 10), .ref (r 11), .ref (r 12), .ref (r 13), .ref (r 14), .ref (r 15), .ref (r 16), .ref (r 17), .ref (r 18), .ref (r 19), .ref (r 20), .ref (r 21), .ref (r 22), .ref (r 23), .ref (r 24), .ref (r 25), .ref (r 26), .ref (r 27), .int mth, .int mpl, .int mga, .int mtr, .int mke, .int mro, .int mck, .int mli, .int mdz, .int mgd, .int mhi, .int mmi, .int mfh, .int msh, .int msm, .int mso, .long msp, .long mrf]
theorem m_sar {n k : Nat} (hn : n < 2 ^ 63) (hk : k < 64) : lN n >>> ((nI k).toInt64 &&& 63) = lN (n / 2 ^ k) := by
  rw [wb_c k hk]
  apply Int64.toInt_inj.mp
  have h2 : n / 2 ^ k ≤ n := Nat.div_le_self _ _
  show ((lN n).toBitVec.sshiftRight ((BitVec.ofNat 64 k).smod 64).toNat).toInt = _
  rw [wb_sm k hk, BitVec.toNat_ofNat, Nat.mod_eq_of_lt (show k < 2 ^ 64 by omega), BitVec.toInt_sshiftRight]
  show (lN n).toInt >>> k = _
  rw [pk_lT hn, pk_lT (by omega), Int.shiftRight_eq_div_pow]
  rfl
theorem m_and15 (n : Nat) : nI n &&& 15 = nI (n % 16) := m_and n 4 (by decide) (by decide)
theorem m_4k (k : Nat) : 4 * nI k = nI (4 * k) := by rw [show (4 : Int32) = nI 4 from rfl, pk_mul]
theorem m_tile4 {t : Nat → Nat} (ht : tl 16 t) {k : Nat} (hk : k < 9) : (b4 t >>> ((4 * nI k).toInt64 &&& 63)).toInt32 &&& 15 = nI (t k) := by
  have h1 := enc4_lt ht
  rw [m_4k]
  unfold b4
  rw [m_sar (by omega) (by omega), lN_i, m_and15, Nat.pow_mul, enc_dig ht hk]
theorem m_d0 : ∀ i, i < 3 → ∀ p, p < 3 → 3 * nI p + nI i = nI (cO 0 i p) := by decide +kernel
theorem m_d1 : ∀ i, i < 3 → ∀ p, p < 3 → 3 * nI i + 2 - nI p = nI (cO 1 i p) := by decide +kernel
theorem m_d2 : ∀ i, i < 3 → ∀ p, p < 3 → 3 * (2 - nI p) + nI i = nI (cO 2 i p) := by decide +kernel
theorem m_d3 : ∀ i, i < 3 → ∀ p, p < 3 → 3 * nI i + nI p = nI (cO 3 i p) := by decide +kernel
theorem m_nxtL {z : Nat} (hz : z < 2 ^ 31) : (((nI z).toInt64 * 1103515245 + 12345) &&& 2147483647).toInt32 = nI (nxt z) := by
  rw [nI_l hz, show (1103515245 : Int64) = lN 1103515245 from rfl, show (12345 : Int64) = lN 12345 from rfl, show (2147483647 : Int64) = lN 2147483647 from rfl, lN_mul, lN_add, wb_and (by omega) (by decide), lN_i, show 2147483647 = 2 ^ 31 - 1 from rfl, Nat.and_two_pow_sub_one_eq_mod]
  rfl
/-- a tile is put where none is; a tile grows by one -/
theorem b4_add {u : Nat → Nat} {k v : Nat} (hk : k < 9) (h0 : u k = 0) : b4 u + lN v <<< ((4 * nI k).toInt64 &&& 63) = b4 (updN u k v) := by
  rw [m_4k, wb_shl v (by omega)]
  unfold b4
  rw [lN_add, enc_upd h0 hk, Nat.pow_mul]
theorem enc_inc {B : Nat} {u : Nat → Nat} {k : Nat} : ∀ {n : Nat}, k < n → enc B (updN u k (u k + 1)) n = enc B u n + B ^ k
  | 0, h => by omega
  | n + 1, h => by
    simp only [enc]
    by_cases q : k = n
    · subst q
      have e : enc B (updN u k (u k + 1)) k = enc B u k := enc_congr (fun i hi => by unfold updN; rw [if_neg (by omega)])
      rw [e, show updN u k (u k + 1) k = u k + 1 from if_pos rfl, Nat.add_mul, Nat.one_mul]
      omega
    · rw [enc_inc (n := n) (by omega), show updN u k (u k + 1) n = u n from if_neg (by omega)]
      omega
theorem b4_inc {u : Nat → Nat} {k v : Nat} (hk : k < 9) (h0 : u k = v) : b4 u + 1 <<< ((4 * nI k).toInt64 &&& 63) = b4 (updN u k (v + 1)) := by
  subst h0
  rw [m_4k, show (1 : Int64) = lN 1 from rfl, wb_shl 1 (by omega)]
  unfold b4
  rw [lN_add, enc_inc hk, Nat.one_mul, Nat.pow_mul]
theorem b4_0 : (0 : Int64) = b4 (fun _ => 0) := by unfold b4; rw [enc_zero]; rfl
theorem goN_4 {t : Nat → Nat} (ht : tl 15 t) {to : Nat} (hto : to < 4) : b4 (pushT t to) = b4 t ↔ goN t to = false := by
  rw [goN_iff, b4_inj (pushT_lt ht hto) (tl_mono ht (by decide))]
/-! the model: pushes -/
theorem nu1 {u : Nat → Nat} {c v w : Nat} : updN (updN u c v) c w = updN u c w := by
  funext x
  unfold updN
  split <;> rfl
theorem nu0 {u : Nat → Nat} {c : Nat} (h : u c = 0) : updN u c 0 = u := by
  funext x
  unfold updN
  split
  · rename_i q; rw [q, h]
  · rfl
theorem nuv {u : Nat → Nat} {c v : Nat} : updN u c v c = v := if_pos rfl
theorem nuz {u : Nat → Nat} {c d v : Nat} (hd : d ≠ c) (h : u d = 0) : updN u c v d = 0 := (if_neg hd).trans h
theorem cO_d {to i p q : Nat} (hto : to < 4) (hi : i < 3) (hp : p < 3) (hq : q < 3) (h : p ≠ q) : cO to i p ≠ cO to i q := by
  unfold cO
  split
  · omega
  · split
    · omega
    · split <;> omega
theorem prt_z3 (t : Nat → Nat) {to i p : Nat} (hto : to < 4) (hi : i < 3) (hp : p < 3) : prt t to (3 * i) (cO to i p) = 0 := by
  have h1 := prt_z t hto hi (p := 0) (by decide)
  rcases (by omega : p = 0 ∨ p = 1 ∨ p = 2) with rfl | rfl | rfl
  · exact h1
  · have h := prt_z t hto hi (p := 1) (by decide)
    have e := prt_s t hto hi (p := 0) (by decide)
    rw [← e] at h
    rw [show updN (prt t to (3 * i + 0)) (cO to i 0) (at3 (mg (lineT t to i)) 0) (cO to i 1) = prt t to (3 * i + 0) (cO to i 1) from if_neg (cO_d hto hi (by decide) (by decide) (by decide))] at h
    exact h
  · have h := prt_z t hto hi (p := 2) (by decide)
    have e1 := prt_s t hto hi (p := 1) (by decide)
    have e := prt_s t hto hi (p := 0) (by decide)
    rw [← e1, ← e] at h
    rw [show ∀ u v, updN u (cO to i 1) v (cO to i 2) = u (cO to i 2) from fun u v => if_neg (cO_d hto hi (by decide) (by decide) (by decide)), show ∀ u v, updN u (cO to i 0) v (cO to i 2) = u (cO to i 2) from fun u v => if_neg (cO_d hto hi (by decide) (by decide) (by decide))] at h
    exact h
theorem lin3 {t : Nat → Nat} {to i x y w : Nat} (hto : to < 4) (hi : i < 3) (h : mg (lineT t to i) = (x, y, w)) : prt t to (3 * (i + 1)) = updN (updN (updN (prt t to (3 * i)) (cO to i 0) x) (cO to i 1) y) (cO to i 2) w := by
  have e0 := prt_s t hto hi (p := 0) (by decide)
  have e1 := prt_s t hto hi (p := 1) (by decide)
  have e2 := prt_s t hto hi (p := 2) (by decide)
  rw [h] at e0 e1 e2
  rw [show 3 * (i + 1) = 3 * i + 2 + 1 by omega, ← e2, show 3 * i + 2 = 3 * i + 1 + 1 by omega, ← e1, show 3 * i + 1 = 3 * i + 0 + 1 by omega, ← e0]
  rfl
theorem lin2 {t : Nat → Nat} {to i x y : Nat} (hto : to < 4) (hi : i < 3) (h : mg (lineT t to i) = (x, y, 0)) : prt t to (3 * (i + 1)) = updN (updN (prt t to (3 * i)) (cO to i 0) x) (cO to i 1) y := by
  rw [lin3 hto hi h]
  exact nu0 (nuz (cO_d hto hi (by decide) (by decide) (by decide)) (nuz (cO_d hto hi (by decide) (by decide) (by decide)) (prt_z3 t hto hi (by decide))))
theorem lin1 {t : Nat → Nat} {to i x : Nat} (hto : to < 4) (hi : i < 3) (h : mg (lineT t to i) = (x, 0, 0)) : prt t to (3 * (i + 1)) = updN (prt t to (3 * i)) (cO to i 0) x := by
  rw [lin2 hto hi h]
  exact nu0 (nuz (cO_d hto hi (by decide) (by decide) (by decide)) (prt_z3 t hto hi (by decide)))
theorem lin0 {t : Nat → Nat} {to i : Nat} (hto : to < 4) (hi : i < 3) (h : mg (lineT t to i) = (0, 0, 0)) : prt t to (3 * (i + 1)) = prt t to (3 * i) := by
  rw [lin1 hto hi h]
  exact nu0 (prt_z3 t hto hi (by decide))
/-! the model: can, over, refusals; its cache: find, oldest, drop, keep -/
def fndI (P : Nat → Bool) (n : Nat) (v : Option Value) : Prop := (v = some (.int (-1)) ∧ ∀ j, j < n → P j = false) ∨ ∃ i, i < n ∧ P i = true ∧ (∀ j, j < i → P j = false) ∧ v = some (.int (nI i))
def oldM (K : Nat → EV) : Nat → Option Nat
  | 0 => none
  | n + 1 => match oldM K n with
    | none => if (K n).2.2.2.2.2.2 = 0 then some n else none
    | some o => if (K n).2.2.2.2.2.2 = 0 ∧ (K n).2.2.2.2.2.1 < (K o).2.2.2.2.2.1 then some n else some o
theorem oldM_lt {K : Nat → EV} : ∀ {n o : Nat}, oldM K n = some o → o < n
  | 0, o, h => by cases h
  | n + 1, o, h => by
    unfold oldM at h
    cases hq : oldM K n with
    | none =>
      rw [hq] at h
      dsimp only at h
      split at h
      · cases h; omega
      · cases h
    | some o' =>
      rw [hq] at h
      dsimp only at h
      have := oldM_lt hq
      split at h
      · cases h; omega
      · cases h; omega
theorem oldM_keep {K : Nat → EV} {i : Nat} (h : ¬ (K i).2.2.2.2.2.2 = 0) : oldM K (i + 1) = oldM K i := by
  rw [oldM]
  cases hq : oldM K i with
  | none => simp [h]
  | some o => simp [h]
theorem oldM_first {K : Nat → EV} {i : Nat} (h : (K i).2.2.2.2.2.2 = 0) (h0 : oldM K i = none) : oldM K (i + 1) = some i := by
  show (match oldM K i with | none => _ | some o => _) = _
  rw [h0]; simp [h]
theorem oldM_new {K : Nat → EV} {i o : Nat} (h : (K i).2.2.2.2.2.2 = 0) (h0 : oldM K i = some o) (hl : (K i).2.2.2.2.2.1 < (K o).2.2.2.2.2.1) : oldM K (i + 1) = some i := by
  show (match oldM K i with | none => _ | some o => _) = _
  rw [h0]; simp [h, hl]
theorem oldM_old {K : Nat → EV} {i o : Nat} (h0 : oldM K i = some o) (hl : ¬ (K i).2.2.2.2.2.1 < (K o).2.2.2.2.2.1) : oldM K (i + 1) = some o := by
  show (match oldM K i with | none => _ | some o => _) = _
  rw [h0]; simp [hl]
def rI (r : Nat → Nat) : Prop := ∀ i j, i < 28 → j < 28 → i ≠ j → r i ≠ r j
def kS (m0 : Nat) (r : Nat → Nat) : Nat → Prop := fun q => q = m0 ∨ ∃ k, 14 ≤ k ∧ k ≤ 20 ∧ q = r k
theorem upd_fun {α : Type} (p : α → Int32) (K : Nat → α) (k : Nat) (y : α) : upd (fun j => p (K j)) k (p y) = fun j => p (if j = k then y else K j) := by
  funext j
  unfold upd
  split <;> rfl
theorem updL_fun {α : Type} (p : α → Int64) (K : Nat → α) (k : Nat) (y : α) : vp_updL (fun j => p (K j)) k (p y) = fun j => p (if j = k then y else K j) := by
  funext j
  unfold vp_updL
  split <;> rfl
def inB (v n : Int32) : Bool := !decide (v < 0) && decide (v < n)
theorem inB_iff {v : Int32} {n : Nat} (hn : n < 2 ^ 31) : inB v (nI n) = true ↔ ∃ i, i < n ∧ v = nI i := by
  unfold inB
  constructor
  · intro h
    have h1 := (Bool.and_eq_true _ _).mp h
    have h2 : ¬ v < 0 := by
      have := h1.1
      simpa using this
    exact rng_in h2 (of_decide_eq_true h1.2) hn
  · rintro ⟨i, hi, rfl⟩
    rw [decide_eq_false (nI_pos (by omega)), decide_eq_true (nI_lt hi hn)]
    rfl
def setK (K : Nat → EV) (e : Nat) (y : EV) : Nat → EV := fun j => if j = e then y else K j
abbrev MS : Type := (Nat → EV) × Nat × Int32
def addM (q : MS) (b : Int64) (z d w h : Int32) : MS := (setK q.1 q.2.1 (b, z, d, w, h, q.2.2 + 1, 0), q.2.1 + 1, q.2.2 + 1)
def keepM (rr : Nat) (q : MS) (b : Int64) (z d w h : Int32) : MS :=
  if q.2.1 = rr then match oldM q.1 q.2.1 with
    | none => q
    | some o => addM (setK q.1 o (q.1 (q.2.1 - 1)), q.2.1 - 1, q.2.2) b z d w h
  else addM q b z d w h
theorem keepM_add {rr : Nat} {q : MS} {b : Int64} {z d w h : Int32} (hn : ¬ q.2.1 = rr) : keepM rr q b z d w h = addM q b z d w h := if_neg hn
theorem keepM_no {rr : Nat} {q : MS} {b : Int64} {z d w h : Int32} (hn : q.2.1 = rr) (ho : oldM q.1 q.2.1 = none) : keepM rr q b z d w h = q := by
  unfold keepM
  rw [if_pos hn, ho]
theorem keepM_drop {rr o : Nat} {q : MS} {b : Int64} {z d w h : Int32} (hn : q.2.1 = rr) (ho : oldM q.1 q.2.1 = some o) : keepM rr q b z d w h = addM (setK q.1 o (q.1 (q.2.1 - 1)), q.2.1 - 1, q.2.2) b z d w h := by
  unfold keepM
  rw [if_pos hn, ho]
