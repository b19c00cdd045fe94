/-! machine numbers and boards -/
abbrev pI (x : Int32) (f : Hm) : Option Value → Hm → Prop := fun v f' => v = some (.int x) ∧ f' = f
abbrev pJ (x : Int64) (f : Hm) : Option Value → Hm → Prop := fun v f' => v = some (.long x) ∧ f' = f
abbrev pV (f : Hm) : Option Value → Hm → Prop := fun v f' => v = none ∧ f' = f
theorem pI_of {x y : Int32} {f : Hm} (h : x = y) : pI y f (some (.int x)) f := ⟨by rw [h], rfl⟩
theorem pJ_of {x y : Int64} {f : Hm} (h : x = y) : pJ y f (some (.long x)) f := ⟨by rw [h], rfl⟩
theorem m_mod (n : Nat) : nI n = nI (n % 2 ^ 32) := Int32.toBitVec_inj.mp (BitVec.eq_of_toNat_eq (by show (BitVec.ofNat 32 n).toNat = (BitVec.ofNat 32 (n % 2 ^ 32)).toNat; simp))
theorem m_and (n k : Nat) (hk : k ≤ 32) {m : Int32} (hm : m.toBitVec.toNat = 2 ^ k - 1) : nI n &&& m = nI (n % 2 ^ k) := by
  rw [pk_and (nI n) k hm]
  congr 1
  show (BitVec.ofNat 32 n).toNat % 2 ^ k = n % 2 ^ k
  rw [BitVec.toNat_ofNat]
  exact Nat.mod_mod_of_dvd n (Nat.pow_dvd_pow 2 hk)
theorem m_and31 (n : Nat) : nI n &&& 31 = nI (n % 32) := m_and n 5 (by decide) (by decide)
theorem m_z {v : Nat} (h : v < 2 ^ 31) : nI v = 0 ↔ v = 0 := nI_eq (b := 0) h (by decide)
theorem m_tile5 {t : Nat → Nat} (ht : tl 32 t) {k : Nat} (hk : k < 9) : ((b5 t).toUInt64 >>> ((nI k * 5).toInt64.toUInt64 &&& Int64.toUInt64 63)).toInt64.toInt32 &&& 31 = nI (t k) := by
  have h1 := enc5_lt ht
  rw [show nI k * 5 = nI (5 * k) by rw [show (5 : Int32) = nI 5 from rfl, pk_mul, Nat.mul_comm]]
  unfold b5
  rw [wb_shr (by omega) (by omega), lN_i, m_and31, Nat.pow_mul, enc_dig ht hk]
theorem m_nxt (z : Nat) : (nI z * 1103515245 + 12345) &&& 2147483647 = nI (nxt z) := by
  rw [show (1103515245 : Int32) = nI 1103515245 from rfl, show (12345 : Int32) = nI 12345 from rfl, pk_mul, nI_add, m_and _ 31 (by decide) (by decide)]
  rfl
theorem m_c0 : ∀ i, i < 3 → ∀ p, p < 3 → nI p * 3 + nI i = nI (cO 0 i p) := by decide +kernel
theorem m_c1 : ∀ i, i < 3 → ∀ p, p < 3 → nI i * 3 + 3 - 1 - nI p = nI (cO 1 i p) := by decide +kernel
theorem m_c2 : ∀ i, i < 3 → ∀ p, p < 3 → (2 - nI p) * 3 + nI i = nI (cO 2 i p) := by decide +kernel
theorem m_c3 : ∀ i, i < 3 → ∀ p, p < 3 → nI i * 3 + nI p = nI (cO 3 i p) := by decide +kernel
def ln (q : Nat × Nat × Nat) : Nat := q.1 + 32 * q.2.1 + 1024 * q.2.2
theorem ln_lt {q : Nat × Nat × Nat} (h : q.1 < 32 ∧ q.2.1 < 32 ∧ q.2.2 < 32) : ln q < 32768 := by unfold ln; omega
theorem ln_at {q : Nat × Nat × Nat} (h : q.1 < 32 ∧ q.2.1 < 32 ∧ q.2.2 < 32) : ∀ p, p < 3 → ln q / 2 ^ (5 * p) % 32 = at3 q p := by
  intro p hp
  obtain ⟨h1, h2, h3⟩ := h
  rcases (show p = 0 ∨ p = 1 ∨ p = 2 by omega) with rfl | rfl | rfl
  · show ln q / 2 ^ 0 % 32 = q.1
    unfold ln; omega
  · show ln q / 2 ^ 5 % 32 = q.2.1
    unfold ln; omega
  · show ln q / 2 ^ 10 % 32 = q.2.2
    unfold ln; omega
theorem m_sm : ∀ p, p < 6 → ((nI p * 5 &&& 31).toBitVec.smod 32).toNat = 5 * p := by decide +kernel
theorem m_shr5 {n p : Nat} (hn : n < 2 ^ 31) (hp : p < 3) : nI n >>> (nI p * 5 &&& 31) = nI (n / 2 ^ (5 * p)) := pk_shrN hn _ _ (m_sm p (by omega))
theorem m_tileIn {q : Nat × Nat × Nat} (h : q.1 < 32 ∧ q.2.1 < 32 ∧ q.2.2 < 32) {p : Nat} (hp : p < 3) : nI (ln q) >>> (nI p * 5 &&& 31) &&& 31 = nI (at3 q p) := by
  rw [m_shr5 (by have := ln_lt h; omega) hp, m_and31, ln_at h p hp]
theorem m_shl {v k : Nat} {s : Int32} (hs : (s.toBitVec.smod 32).toNat = k) (h : v * 2 ^ k < 2 ^ 32) : nI v <<< s = nI (v * 2 ^ k) := pk_shlN s k hs h
theorem m_or {a v k : Nat} (ha : a < 2 ^ k) (h : a + v * 2 ^ k < 2 ^ 32) : nI a ||| nI (v * 2 ^ k) = nI (a + v * 2 ^ k) := by
  have e : a ||| v * 2 ^ k = a + v * 2 ^ k := by
    have := Nat.two_pow_add_eq_or_of_lt ha v
    rw [Nat.mul_comm v, Nat.or_comm, ← this, Nat.add_comm]
  rw [← e]
  apply Int32.toBitVec_inj.mp
  show (BitVec.ofNat 32 a) ||| (BitVec.ofNat 32 (v * 2 ^ k)) = BitVec.ofNat 32 (a ||| v * 2 ^ k)
  apply BitVec.eq_of_toNat_eq
  rw [BitVec.toNat_or, BitVec.toNat_ofNat, BitVec.toNat_ofNat, BitVec.toNat_ofNat, Nat.or_mod_two_pow]
/-- where a line merges: 0, 1, or -1 -/
def mpI (q : Nat × Nat × Nat) : Int32 := if q.1 ≠ 0 ∧ q.1 = q.2.1 then 0 else if q.2.1 ≠ 0 ∧ q.2.1 = q.2.2 then 1 else -1
theorem m_mp {q : Nat × Nat × Nat} (h : q.1 < 32 ∧ q.2.1 < 32 ∧ q.2.2 < 32) : nI (ln q) &&& 31 = nI q.1 ∧ nI (ln q) >>> ((5 : Int32) &&& 31) &&& 31 = nI q.2.1 ∧ nI (ln q) >>> ((10 : Int32) &&& 31) &&& 31 = nI q.2.2 := by
  have a := ln_at h 0 (by decide)
  have b := m_tileIn h (p := 1) (by decide)
  have c := m_tileIn h (p := 2) (by decide)
  refine ⟨?_, b, c⟩
  rw [m_and31]
  simp only [Nat.mul_zero, Nat.pow_zero, Nat.div_one] at a
  rw [a]; rfl
theorem b5_or {u : Nat → Nat} (hu : tl 32 u) {k v : Nat} (hk : k < 9) (h0 : u k = 0) (hv : v < 32) : b5 u ||| lN v <<< ((nI k * 5).toInt64 &&& 63) = b5 (updN u k v) := by
  have h1 := enc5_lt hu
  have h2 : tl 32 (updN u k v) := fun i hi => by
    unfold updN
    split
    · exact hv
    · exact hu i hi
  have h3 := enc5_lt h2
  rw [show nI k * 5 = nI (5 * k) by rw [show (5 : Int32) = nI 5 from rfl, pk_mul, Nat.mul_comm], wb_shl v (by omega)]
  unfold b5
  have e := enc_or (w := 5) (n := 9) hu hk h0 hv
  rw [show (2 : Nat) ^ 5 = 32 from rfl] at e
  rw [enc_upd h0 hk] at h3
  rw [wb_or (by omega) (by rw [Nat.pow_mul, show (2 : Nat) ^ 5 = 32 from rfl]; omega), e]
/-- the part of a pushed board that stands after j cells -/
def prt (t : Nat → Nat) (to j : Nat) : Nat → Nat := fun c => if c < 9 ∧ 3 * iO to c + pO to c < j then pushT t to c else 0
theorem prt_9 (t : Nat → Nat) {to : Nat} (hto : to < 4) : eq9 (prt t to 9) (pushT t to) := by
  intro c hc
  unfold prt
  have := iO_lt to hto c hc
  rw [if_pos ⟨hc, by omega⟩]
theorem prt_0 (t : Nat → Nat) (to : Nat) : prt t to 0 = fun _ => 0 := by
  funext c
  unfold prt
  rw [if_neg (fun h => by omega)]
theorem prt_z (t : Nat → Nat) {to i p : Nat} (hto : to < 4) (hi : i < 3) (hp : p < 3) : prt t to (3 * i + p) (cO to i p) = 0 := by
  unfold prt
  rw [(cO_ip to hto i hi p hp).1, (cO_ip to hto i hi p hp).2, if_neg (fun h => by omega)]
theorem prt_s (t : Nat → Nat) {to i p : Nat} (hto : to < 4) (hi : i < 3) (hp : p < 3) : updN (prt t to (3 * i + p)) (cO to i p) (at3 (mg (lineT t to i)) p) = prt t to (3 * i + p + 1) := by
  funext c
  unfold updN
  by_cases h : c = cO to i p
  · rw [if_pos h, h]
    unfold prt
    rw [(cO_ip to hto i hi p hp).1, (cO_ip to hto i hi p hp).2, if_pos ⟨cO_lt to hto i hi p hp, by omega⟩, pushT_at t hto hi hp]
  · rw [if_neg h]
    unfold prt
    by_cases h9 : c < 9
    · obtain ⟨g1, g2, g3⟩ := iO_lt to hto c h9
      have hne : 3 * iO to c + pO to c ≠ 3 * i + p := fun z => h (by
        have e1 : iO to c = i := by omega
        have e2 : pO to c = p := by omega
        rw [← g3, e1, e2])
      by_cases hl : 3 * iO to c + pO to c < 3 * i + p
      · rw [if_pos ⟨h9, hl⟩, if_pos ⟨h9, by omega⟩]
      · rw [if_neg (fun z => hl z.2), if_neg (fun z => by omega)]
    · rw [if_neg (fun z => h9 z.1), if_neg (fun z => h9 z.1)]
theorem prt_lt {n : Nat} {t : Nat → Nat} (h : tl n t) {to : Nat} (hto : to < 4) (j : Nat) : tl (n + 1) (prt t to j) := by
  intro c hc
  unfold prt
  split
  · exact pushT_lt h hto c hc
  · omega
theorem b5_0 : (0 : Int64) = b5 (fun _ => 0) := by unfold b5; rw [enc_zero]; rfl
/-- can a push be done: by the board that comes -/
def goN (t : Nat → Nat) (to : Nat) : Bool := !((List.range 9).all fun i => decide (pushT t to i = t i))
theorem goN_iff {t : Nat → Nat} {to : Nat} : goN t to = false ↔ eq9 (pushT t to) t := by
  unfold goN eq9
  simp [List.all_eq_true]
theorem goN_5 {t : Nat → Nat} (ht : tl 31 t) {to : Nat} (hto : to < 4) : b5 (pushT t to) = b5 t ↔ goN t to = false := by
  rw [goN_iff, b5_inj (pushT_lt ht hto) (tl_mono ht (by decide))]
def bI (b : Bool) : Int32 := if b then 1 else 0
theorem m_cmp {x y : Int64} : lg_cmp x y = 0 ↔ x = y := by
  unfold lg_cmp
  constructor
  · intro h
    split at h
    · exact absurd h (by decide)
    · split at h
      · assumption
      · exact absurd h (by decide)
  · intro h
    subst h
    rw [if_neg (by simp), if_pos rfl]
def ovN (t : Nat → Nat) : Bool := !goN t 0 && !goN t 1 && !goN t 2 && !goN t 3
theorem m_65536 {n : Nat} (h : n < 2 ^ 31) : nI n >>> ((16 : Int32) &&& 31) = nI (n / 65536) := pk_shrN h _ 16 (by decide)
theorem m_mg0 {q : Nat × Nat × Nat} (hq : q.1 < 31 ∧ q.2.1 < 31 ∧ q.2.2 < 31) (h1 : q.1 ≠ 0 ∧ q.1 = q.2.1) : (nI (ln q) &&& 0 ||| (nI (at3 q 0) + 1) <<< ((0 : Int32) &&& 31)) ||| (nI (ln q) >>> ((10 : Int32) &&& 31)) <<< ((5 : Int32) &&& 31) = nI (ln (mg q)) := by
  obtain ⟨g1, g2, g3⟩ := hq
  have hl : ln q < 32768 := ln_lt ⟨by omega, by omega, by omega⟩
  have e1 : nI (ln q) &&& 0 = nI 0 := by rw [m_and (ln q) 0 (by decide) (by decide), Nat.pow_zero, Nat.mod_one]
  have e2 : (nI (at3 q 0) + 1) <<< ((0 : Int32) &&& 31) = nI ((q.1 + 1) * 2 ^ 0) := by rw [nI_1]; exact m_shl (by decide) (by show (at3 q 0 + 1) * 2 ^ 0 < _; show (q.1 + 1) * 1 < _; omega)
  have e3 : nI (ln q) >>> ((10 : Int32) &&& 31) = nI q.2.2 := by rw [pk_shrN (by omega) _ 10 (by decide)]; congr 1; unfold ln; omega
  have e4 : nI q.2.2 <<< ((5 : Int32) &&& 31) = nI (q.2.2 * 2 ^ 5) := m_shl (by decide) (by omega)
  have em : mg q = (q.1 + 1, q.2.2, 0) := if_pos h1
  rw [e1, e2, e3, e4, m_or (by decide) (by omega), m_or (by omega) (by omega), em]
  congr 1
  show _ = q.1 + 1 + 32 * q.2.2 + 1024 * 0
  omega
theorem m_mg1 {q : Nat × Nat × Nat} (hq : q.1 < 31 ∧ q.2.1 < 31 ∧ q.2.2 < 31) (h1 : ¬ (q.1 ≠ 0 ∧ q.1 = q.2.1)) (h2 : q.2.1 ≠ 0 ∧ q.2.1 = q.2.2) : (nI (ln q) &&& 31 ||| (nI (at3 q 1) + 1) <<< ((5 : Int32) &&& 31)) ||| (nI (ln q) >>> ((15 : Int32) &&& 31)) <<< ((10 : Int32) &&& 31) = nI (ln (mg q)) := by
  obtain ⟨g1, g2, g3⟩ := hq
  have hl : ln q < 32768 := ln_lt ⟨by omega, by omega, by omega⟩
  have e1 : nI (ln q) &&& 31 = nI q.1 := by rw [m_and31]; congr 1; unfold ln; omega
  have e2 : (nI (at3 q 1) + 1) <<< ((5 : Int32) &&& 31) = nI ((q.2.1 + 1) * 2 ^ 5) := by rw [nI_1]; exact m_shl (by decide) (by show (q.2.1 + 1) * 2 ^ 5 < _; omega)
  have e3 : nI (ln q) >>> ((15 : Int32) &&& 31) = nI 0 := by rw [pk_shrN (by omega) _ 15 (by decide)]; congr 1; omega
  have e4 : nI 0 <<< ((10 : Int32) &&& 31) = nI (0 * 2 ^ 10) := m_shl (by decide) (by decide)
  have em : mg q = (q.1, q.2.1 + 1, 0) := by unfold mg; rw [if_neg h1, if_pos h2]
  rw [e1, e2, e3, e4, m_or (by omega) (by omega), m_or (by omega) (by omega), em]
  congr 1
  show _ = q.1 + 32 * (q.2.1 + 1) + 1024 * 0
  omega
theorem m_mg2 {q : Nat × Nat × Nat} (h1 : ¬ (q.1 ≠ 0 ∧ q.1 = q.2.1)) (h2 : ¬ (q.2.1 ≠ 0 ∧ q.2.1 = q.2.2)) : nI (ln q) = nI (ln (mg q)) := by
  unfold mg; rw [if_neg h1, if_neg h2]
theorem m_mp3 (q : Nat × Nat × Nat) : (mpI q = 0 ∧ gn q = 2 ^ (at3 q 0 + 1)) ∨ (mpI q = 1 ∧ gn q = 2 ^ (at3 q 1 + 1)) ∨ (mpI q = -1 ∧ gn q = 0) := by
  unfold mpI gn
  by_cases h1 : q.1 ≠ 0 ∧ q.1 = q.2.1
  · exact Or.inl ⟨if_pos h1, if_pos h1⟩
  · by_cases h2 : q.2.1 ≠ 0 ∧ q.2.1 = q.2.2
    · exact Or.inr (Or.inl ⟨by rw [if_neg h1, if_pos h2], by rw [if_neg h1, if_pos h2]; rfl⟩)
    · exact Or.inr (Or.inr ⟨by rw [if_neg h1, if_neg h2], by rw [if_neg h1, if_neg h2]⟩)
theorem m_1shl : ∀ v, v < 32 → (1 : Int32) <<< (nI v &&& 31) = nI (2 ^ v) := by decide +kernel
/-- the gains of the lines below i -/
def gsum (t : Nat → Nat) (to : Nat) : Nat → Nat
  | 0 => 0
  | i + 1 => gsum t to i + gn (lineT t to i)
theorem gsum_3 (t : Nat → Nat) (to : Nat) : gsum t to 3 = gainT t to := by unfold gainT; simp [gsum]
theorem bI_0 {b : Bool} : bI b = 0 ↔ b = false := by cases b <;> decide
theorem bI_n {b : Bool} : bI b ≠ 0 ↔ b = true := by cases b <;> decide
theorem bI_t : bI true = 1 := rfl
theorem bI_f : bI false = 0 := rfl
theorem m_rem {a d : Nat} (ha : a < 2 ^ 31) (h0 : 0 < d) (hd : d < 2 ^ 31) : nI a - nI a / nI d * nI d = nI (a % d) := pk_rem ha h0 hd
theorem newT_0 {z : Nat} (h : nxt (nxt z) / 65536 % 10 = 0) : newTile z = 2 := if_pos h
theorem newT_1 {z : Nat} (h : ¬ nxt (nxt z) / 65536 % 10 = 0) : newTile z = 1 := if_neg h
