/-! BOARDS AS NUMBERS: t gives the tile of each cell; enc B t 9 is the number with digit t i at place i; lines, merging, pushes, draws -/
def enc (B : Nat) (t : Nat → Nat) : Nat → Nat
  | 0 => 0
  | n + 1 => enc B t n + t n * B ^ n
theorem enc_congr {B : Nat} {t u : Nat → Nat} : ∀ {n : Nat}, (∀ i, i < n → t i = u i) → enc B t n = enc B u n
  | 0, _ => rfl
  | n + 1, h => by simp only [enc]; rw [enc_congr (n := n) (fun i hi => h i (by omega)), h n (by omega)]
theorem enc_lt {B : Nat} {t : Nat → Nat} : ∀ {n : Nat}, (∀ i, i < n → t i < B) → enc B t n < B ^ n
  | 0, _ => by simp [enc]
  | n + 1, h => by
    have h1 := enc_lt (n := n) (fun i hi => h i (by omega))
    have h2 := h n (by omega)
    simp only [enc]
    have h3 : t n * B ^ n ≤ (B - 1) * B ^ n := Nat.mul_le_mul_right _ (by omega)
    have h4 : B ^ (n + 1) = (B - 1) * B ^ n + B ^ n := by
      rw [Nat.pow_succ, Nat.mul_comm]
      have : B = (B - 1) + 1 := by omega
      calc B * B ^ n = ((B - 1) + 1) * B ^ n := by rw [← this]
        _ = (B - 1) * B ^ n + B ^ n := by rw [Nat.add_mul, Nat.one_mul]
    omega
theorem enc_split {B : Nat} {t : Nat → Nat} (k : Nat) : ∀ (m : Nat), enc B t (k + m) = enc B t k + B ^ k * enc B (fun i => t (k + i)) m
  | 0 => by simp [enc]
  | m + 1 => by
    rw [← Nat.add_assoc]
    simp only [enc]
    rw [enc_split k m, Nat.mul_add, Nat.pow_add, Nat.add_assoc]
    congr 1
    congr 1
    rw [← Nat.mul_assoc, Nat.mul_comm (t (k + m)) (B ^ k), Nat.mul_assoc]
theorem enc_dig {B : Nat} {t : Nat → Nat} {n k : Nat} (h : ∀ i, i < n → t i < B) (hk : k < n) : enc B t n / B ^ k % B = t k := by
  have hB : 0 < B := by have := h k hk; omega
  obtain ⟨m, rfl⟩ : ∃ m, n = k + (m + 1) := ⟨n - k - 1, by omega⟩
  rw [enc_split k (m + 1), Nat.add_mul_div_left _ _ (Nat.pow_pos hB), Nat.div_eq_of_lt (enc_lt (fun i hi => h i (by omega))), Nat.zero_add]
  have e : enc B (fun i => t (k + i)) (m + 1) = t k + B * enc B (fun i => t (k + (1 + i))) m := by
    rw [Nat.add_comm m 1, enc_split 1 m]
    simp [enc]
  rw [e, Nat.add_mul_mod_self_left, Nat.mod_eq_of_lt (h k (by omega))]
theorem enc_inj {B : Nat} {t u : Nat → Nat} {n : Nat} (ht : ∀ i, i < n → t i < B) (hu : ∀ i, i < n → u i < B) (h : enc B t n = enc B u n) {i : Nat} (hi : i < n) : t i = u i := by
  rw [← enc_dig ht hi, ← enc_dig hu hi, h]
/-- one place set -/
def updN (f : Nat → Nat) (k v : Nat) : Nat → Nat := fun j => if j = k then v else f j
theorem enc_upd {B : Nat} {u : Nat → Nat} {k v : Nat} (h0 : u k = 0) : ∀ {n : Nat}, k < n → enc B (updN u k v) n = enc B u n + v * B ^ k
  | 0, h => by omega
  | n + 1, h => by
    simp only [enc]
    by_cases hk : k = n
    · subst hk
      rw [enc_congr (u := u) (fun i hi => by simp [updN, show i ≠ k by omega])]
      simp [updN, h0]
    · rw [enc_upd h0 (n := n) (by omega)]
      have : updN u k v n = u n := by simp [updN, show ¬ n = k by omega]
      rw [this]; omega
theorem enc_zero {B : Nat} : ∀ (n : Nat), enc B (fun _ => 0) n = 0
  | 0 => rfl
  | n + 1 => by simp [enc, enc_zero n]
/-- or is a sum where the digit was 0 -/
theorem or_dig (w c N v : Nat) (h0 : N / 2 ^ (w * c) % 2 ^ w = 0) (hv : v < 2 ^ w) : N ||| v * 2 ^ (w * c) = N + v * 2 ^ (w * c) := by
  have hN : N = 2 ^ (w * c + w) * (N / 2 ^ (w * c + w)) + N % 2 ^ (w * c) := by
    have h1 := Nat.div_add_mod N (2 ^ (w * c))
    have h2 := Nat.div_add_mod (N / 2 ^ (w * c)) (2 ^ w)
    rw [h0, Nat.add_zero, Nat.div_div_eq_div_mul, ← Nat.pow_add] at h2
    calc N = 2 ^ (w * c) * (N / 2 ^ (w * c)) + N % 2 ^ (w * c) := h1.symm
      _ = 2 ^ (w * c) * (2 ^ w * (N / 2 ^ (w * c + w))) + N % 2 ^ (w * c) := by rw [h2]
      _ = _ := by rw [← Nat.mul_assoc, ← Nat.pow_add]
  generalize hq : N / 2 ^ (w * c + w) = q at hN
  generalize hr : N % 2 ^ (w * c) = r at hN
  have hrl : r < 2 ^ (w * c) := by rw [← hr]; exact Nat.mod_lt _ (Nat.pow_pos (by decide))
  have hs : r + v * 2 ^ (w * c) < 2 ^ (w * c + w) := by
    rw [Nat.pow_add]
    have : (v + 1) * 2 ^ (w * c) ≤ 2 ^ w * 2 ^ (w * c) := Nat.mul_le_mul_right _ hv
    rw [Nat.add_mul, Nat.one_mul] at this
    rw [Nat.mul_comm (2 ^ (w * c))]
    omega
  have hrl2 : r < 2 ^ (w * c + w) := by omega
  have e1 : 2 ^ (w * c) * v + r = 2 ^ (w * c) * v ||| r := Nat.two_pow_add_eq_or_of_lt hrl v
  have e2 : 2 ^ (w * c + w) * q + r = 2 ^ (w * c + w) * q ||| r := Nat.two_pow_add_eq_or_of_lt hrl2 q
  have e3 : 2 ^ (w * c + w) * q + (r + v * 2 ^ (w * c)) = 2 ^ (w * c + w) * q ||| (r + v * 2 ^ (w * c)) := Nat.two_pow_add_eq_or_of_lt hs q
  have e4 : r + v * 2 ^ (w * c) = r ||| v * 2 ^ (w * c) := by
    rw [Nat.add_comm, Nat.mul_comm v, e1, Nat.or_comm]
  rw [hN, Nat.add_assoc, e3, e4, ← Nat.or_assoc, ← e2]
theorem enc_or {w : Nat} {u : Nat → Nat} {n k v : Nat} (hu : ∀ i, i < n → u i < 2 ^ w) (hk : k < n) (h0 : u k = 0) (hv : v < 2 ^ w) : enc (2 ^ w) u n ||| v * 2 ^ (w * k) = enc (2 ^ w) (updN u k v) n := by
  rw [enc_upd h0 hk, or_dig w k _ v (by rw [Nat.pow_mul, enc_dig hu hk]; exact h0) hv, Nat.pow_mul]
/-- the class's board: five bits a cell; the reference's: four -/
def b5 (t : Nat → Nat) : Int64 := lN (enc 32 t 9)
def b4 (t : Nat → Nat) : Int64 := lN (enc 16 t 9)
/-- the tiles are below n -/
def tl (n : Nat) (t : Nat → Nat) : Prop := ∀ i, i < 9 → t i < n
/-- the same on nine cells -/
def eq9 (t u : Nat → Nat) : Prop := ∀ i, i < 9 → t i = u i
theorem b5_congr {t u : Nat → Nat} (h : eq9 t u) : b5 t = b5 u := congrArg lN (enc_congr h)
theorem b4_congr {t u : Nat → Nat} (h : eq9 t u) : b4 t = b4 u := congrArg lN (enc_congr h)
theorem enc5_lt {t : Nat → Nat} (h : tl 32 t) : enc 32 t 9 < 2 ^ 45 := enc_lt (n := 9) h
theorem enc4_lt {t : Nat → Nat} (h : tl 16 t) : enc 16 t 9 < 2 ^ 36 := enc_lt (n := 9) h
theorem lN_inj63 {a b : Nat} (ha : a < 2 ^ 63) (hb : b < 2 ^ 63) : lN a = lN b ↔ a = b := pk_lEQ ha hb
theorem b5_inj {t u : Nat → Nat} (ht : tl 32 t) (hu : tl 32 u) : b5 t = b5 u ↔ eq9 t u := by
  have h1 := enc5_lt ht
  have h2 := enc5_lt hu
  refine ⟨fun h i hi => ?_, b5_congr⟩
  exact enc_inj ht hu ((lN_inj63 (by omega) (by omega)).mp h) hi
theorem b4_inj {t u : Nat → Nat} (ht : tl 16 t) (hu : tl 16 u) : b4 t = b4 u ↔ eq9 t u := by
  have h1 := enc4_lt ht
  have h2 := enc4_lt hu
  refine ⟨fun h i hi => ?_, b4_congr⟩
  exact enc_inj ht hu ((lN_inj63 (by omega) (by omega)).mp h) hi
theorem tl_mono {m n : Nat} {t : Nat → Nat} (h : tl m t) (hmn : m ≤ n) : tl n t := fun i hi => Nat.lt_of_lt_of_le (h i hi) hmn
-- lines
def cO (to i p : Nat) : Nat := if to = 0 then 3 * p + i else if to = 1 then 3 * i + 2 - p else if to = 2 then 3 * (2 - p) + i else 3 * i + p
def iO (to c : Nat) : Nat := if to = 0 then c % 3 else if to = 1 then c / 3 else if to = 2 then c % 3 else c / 3
def pO (to c : Nat) : Nat := if to = 0 then c / 3 else if to = 1 then 2 - c % 3 else if to = 2 then 2 - c / 3 else c % 3
theorem cO_lt : ∀ to, to < 4 → ∀ i, i < 3 → ∀ p, p < 3 → cO to i p < 9 := by decide
theorem cO_ip : ∀ to, to < 4 → ∀ i, i < 3 → ∀ p, p < 3 → iO to (cO to i p) = i ∧ pO to (cO to i p) = p := by decide
theorem iO_lt : ∀ to, to < 4 → ∀ c, c < 9 → iO to c < 3 ∧ pO to c < 3 ∧ cO to (iO to c) (pO to c) = c := by decide
def gat (a b c : Nat) : Nat × Nat × Nat := if a = 0 then (if b = 0 then (c, 0, 0) else (b, c, 0)) else if b = 0 then (a, c, 0) else (a, b, c)
def mg (q : Nat × Nat × Nat) : Nat × Nat × Nat := if q.1 ≠ 0 ∧ q.1 = q.2.1 then (q.1 + 1, q.2.2, 0) else if q.2.1 ≠ 0 ∧ q.2.1 = q.2.2 then (q.1, q.2.1 + 1, 0) else q
def gn (q : Nat × Nat × Nat) : Nat := if q.1 ≠ 0 ∧ q.1 = q.2.1 then 2 ^ (q.1 + 1) else if q.2.1 ≠ 0 ∧ q.2.1 = q.2.2 then 2 ^ (q.2.1 + 1) else 0
def at3 (q : Nat × Nat × Nat) (p : Nat) : Nat := if p = 0 then q.1 else if p = 1 then q.2.1 else q.2.2
def lineT (t : Nat → Nat) (to i : Nat) : Nat × Nat × Nat := gat (t (cO to i 0)) (t (cO to i 1)) (t (cO to i 2))
def pushT (t : Nat → Nat) (to : Nat) : Nat → Nat := fun c => if c < 9 then at3 (mg (lineT t to (iO to c))) (pO to c) else 0
def gainT (t : Nat → Nat) (to : Nat) : Nat := gn (lineT t to 0) + gn (lineT t to 1) + gn (lineT t to 2)
theorem gat_lt {n a b c : Nat} (ha : a < n) (hb : b < n) (hc : c < n) : (gat a b c).1 < n ∧ (gat a b c).2.1 < n ∧ (gat a b c).2.2 < n := by
  unfold gat
  repeat' split
  all_goals (refine ⟨?_, ?_, ?_⟩ <;> (try dsimp only) <;> omega)
theorem mg_lt {n : Nat} {q : Nat × Nat × Nat} (h : q.1 < n ∧ q.2.1 < n ∧ q.2.2 < n) (p : Nat) : at3 (mg q) p < n + 1 := by
  obtain ⟨h1, h2, h3⟩ := h
  unfold at3 mg
  repeat' split
  all_goals ((try dsimp only); omega)
theorem at3_lt {n : Nat} {q : Nat × Nat × Nat} (h : q.1 < n ∧ q.2.1 < n ∧ q.2.2 < n) (p : Nat) : at3 q p < n := by
  obtain ⟨h1, h2, h3⟩ := h
  unfold at3
  repeat' split
  all_goals assumption
theorem lineT_lt {n : Nat} {t : Nat → Nat} (h : tl n t) {to i : Nat} (hto : to < 4) (hi : i < 3) : (lineT t to i).1 < n ∧ (lineT t to i).2.1 < n ∧ (lineT t to i).2.2 < n :=
  gat_lt (h _ (cO_lt to hto i hi 0 (by decide))) (h _ (cO_lt to hto i hi 1 (by decide))) (h _ (cO_lt to hto i hi 2 (by decide)))
theorem pushT_lt {n : Nat} {t : Nat → Nat} (h : tl n t) {to : Nat} (hto : to < 4) : tl (n + 1) (pushT t to) := by
  intro c hc
  unfold pushT
  rw [if_pos hc]
  exact mg_lt (lineT_lt h hto (iO_lt to hto c hc).1) _
theorem lineT_congr {t u : Nat → Nat} (h : eq9 t u) {to i : Nat} (hto : to < 4) (hi : i < 3) : lineT t to i = lineT u to i := by
  unfold lineT
  rw [h _ (cO_lt to hto i hi 0 (by decide)), h _ (cO_lt to hto i hi 1 (by decide)), h _ (cO_lt to hto i hi 2 (by decide))]
theorem pushT_congr {t u : Nat → Nat} (h : eq9 t u) {to : Nat} (hto : to < 4) : pushT t to = pushT u to := by
  funext c
  unfold pushT
  by_cases hc : c < 9
  · rw [if_pos hc, if_pos hc, lineT_congr h hto (iO_lt to hto c hc).1]
  · rw [if_neg hc, if_neg hc]
theorem gainT_congr {t u : Nat → Nat} (h : eq9 t u) {to : Nat} (hto : to < 4) : gainT t to = gainT u to := by
  unfold gainT
  rw [lineT_congr h hto (i := 0) (by decide), lineT_congr h hto (i := 1) (by decide), lineT_congr h hto (i := 2) (by decide)]
-- worths: what the tiles are worth in all
def tw (v : Nat) : Nat := if v = 0 then 0 else 2 ^ v
def w3 (q : Nat × Nat × Nat) : Nat := tw q.1 + tw q.2.1 + tw q.2.2
def wt (t : Nat → Nat) : Nat := tw (t 0) + tw (t 1) + tw (t 2) + tw (t 3) + tw (t 4) + tw (t 5) + tw (t 6) + tw (t 7) + tw (t 8)
theorem tw_0 : tw 0 = 0 := rfl
theorem tw_s (v : Nat) : tw (v + 1) = 2 ^ (v + 1) := by simp [tw]
theorem gat_w (a b c : Nat) : w3 (gat a b c) = tw a + tw b + tw c := by
  unfold gat w3
  repeat' split
  all_goals (rename_i h1 h2; simp_all [tw_0])
  all_goals omega
theorem mg_w (q : Nat × Nat × Nat) : w3 (mg q) = w3 q := by
  obtain ⟨x, y, z⟩ := q
  unfold mg w3
  dsimp only
  split
  · rename_i h
    obtain ⟨h1, rfl⟩ := h
    have : tw x = 2 ^ x := by simp [tw, h1]
    simp only [tw_s, tw_0, this, Nat.pow_succ]; omega
  · split
    · rename_i h1 h
      obtain ⟨h2, rfl⟩ := h
      have : tw y = 2 ^ y := by simp [tw, h2]
      simp only [tw_s, tw_0, this, Nat.pow_succ]; omega
    · rfl
theorem pushT_at (t : Nat → Nat) {to i p : Nat} (hto : to < 4) (hi : i < 3) (hp : p < 3) : pushT t to (cO to i p) = at3 (mg (lineT t to i)) p := by
  unfold pushT
  rw [if_pos (cO_lt to hto i hi p hp), (cO_ip to hto i hi p hp).1, (cO_ip to hto i hi p hp).2]
theorem wt_lines (t : Nat → Nat) {to : Nat} (hto : to < 4) : wt t = (tw (t (cO to 0 0)) + tw (t (cO to 0 1)) + tw (t (cO to 0 2))) + (tw (t (cO to 1 0)) + tw (t (cO to 1 1)) + tw (t (cO to 1 2))) + (tw (t (cO to 2 0)) + tw (t (cO to 2 1)) + tw (t (cO to 2 2))) := by
  rcases (show to = 0 ∨ to = 1 ∨ to = 2 ∨ to = 3 by omega) with rfl | rfl | rfl | rfl <;> simp [wt, cO] <;> omega
theorem pushT_w (t : Nat → Nat) {to : Nat} (hto : to < 4) : wt (pushT t to) = wt t := by
  rw [wt_lines (pushT t to) hto, wt_lines t hto]
  have h : ∀ i, i < 3 → tw (pushT t to (cO to i 0)) + tw (pushT t to (cO to i 1)) + tw (pushT t to (cO to i 2)) = tw (t (cO to i 0)) + tw (t (cO to i 1)) + tw (t (cO to i 2)) := by
    intro i hi
    rw [pushT_at t hto hi (by decide), pushT_at t hto hi (by decide), pushT_at t hto hi (by decide)]
    have h1 := mg_w (lineT t to i)
    have h2 := gat_w (t (cO to i 0)) (t (cO to i 1)) (t (cO to i 2))
    unfold w3 at h1 h2
    simp only [at3, if_true, if_neg (show ¬ (1 : Nat) = 0 by decide), if_neg (show ¬ (2 : Nat) = 0 by decide), if_neg (show ¬ (2 : Nat) = 1 by decide)]
    unfold lineT at h1 ⊢
    omega
  rw [h 0 (by decide), h 1 (by decide), h 2 (by decide)]
theorem tl_of_wt {t : Nat → Nat} {n : Nat} (h : wt t < 2 ^ n) (hn : 0 < n) : tl n t := by
  intro i hi
  have h1 : tw (t i) ≤ wt t := by
    rcases (show i = 0 ∨ i = 1 ∨ i = 2 ∨ i = 3 ∨ i = 4 ∨ i = 5 ∨ i = 6 ∨ i = 7 ∨ i = 8 by omega) with rfl | rfl | rfl | rfl | rfl | rfl | rfl | rfl | rfl <;> (unfold wt; omega)
  by_cases h0 : t i = 0
  · omega
  · unfold tw at h1
    rw [if_neg h0] at h1
    exact (Nat.pow_lt_pow_iff_right (by decide)).mp (Nat.lt_of_le_of_lt h1 h)
-- draws
def nxt (z : Nat) : Nat := (z * 1103515245 + 12345) % 2147483648
def cntE (t : Nat → Nat) : Nat → Nat
  | 0 => 0
  | n + 1 => cntE t n + if t n = 0 then 1 else 0
/-- the place of the k-th empty cell among the n first, seen from place j on -/
def posE (t : Nat → Nat) (n : Nat) (k : Nat) : Nat := (List.range n).find? (fun c => decide (t c = 0) && decide (cntE t c = k)) |>.getD 9
def newTile (z : Nat) : Nat := if nxt (nxt z) / 65536 % 10 = 0 then 2 else 1
def drawT (t : Nat → Nat) (z : Nat) : Nat → Nat := if cntE t 9 = 0 then t else updN t (posE t 9 (nxt z / 65536 % cntE t 9)) (newTile z)
theorem nxt_lt (z : Nat) : nxt z < 2147483648 := Nat.mod_lt _ (by decide)
theorem newTile_le (z : Nat) : newTile z ≤ 2 ∧ 1 ≤ newTile z := by unfold newTile; split <;> decide
theorem cntE_le (t : Nat → Nat) : ∀ n, cntE t n ≤ n
  | 0 => Nat.le_refl _
  | n + 1 => by have := cntE_le t n; unfold cntE; split <;> omega
theorem cntE_mono {t : Nat → Nat} : ∀ {m n : Nat}, m ≤ n → cntE t m ≤ cntE t n
  | m, 0, h => by rw [show m = 0 by omega]; exact Nat.le_refl _
  | m, n + 1, h => by
    by_cases hm : m = n + 1
    · rw [hm]; exact Nat.le_refl _
    · have := cntE_mono (t := t) (m := m) (n := n) (by omega)
      show cntE t m ≤ cntE t n + _
      omega
theorem cntE_congr {t u : Nat → Nat} : ∀ {n : Nat}, (∀ i, i < n → t i = u i) → cntE t n = cntE u n
  | 0, _ => rfl
  | n + 1, h => by unfold cntE; rw [cntE_congr (n := n) (fun i hi => h i (by omega)), h n (by omega)]
/-- there is a k-th empty cell -/
theorem posE_ex {t : Nat → Nat} : ∀ {n k : Nat}, k < cntE t n → ∃ c, c < n ∧ t c = 0 ∧ cntE t c = k
  | 0, k, h => by unfold cntE at h; omega
  | n + 1, k, h => by
    unfold cntE at h
    by_cases h0 : t n = 0
    · rw [if_pos h0] at h
      by_cases hk : k < cntE t n
      · obtain ⟨c, h1, h2⟩ := posE_ex hk
        exact ⟨c, by omega, h2⟩
      · exact ⟨n, by omega, h0, by omega⟩
    · rw [if_neg h0] at h
      obtain ⟨c, h1, h2⟩ := posE_ex (n := n) (k := k) (by omega)
      exact ⟨c, by omega, h2⟩
theorem posE_uniq {t : Nat → Nat} {c d k : Nat} (hc : t c = 0) (hd : t d = 0) (h1 : cntE t c = k) (h2 : cntE t d = k) : c = d := by
  rcases Nat.lt_trichotomy c d with h | h | h
  · have h3 := cntE_mono (t := t) (show c + 1 ≤ d from h)
    have h4 : cntE t (c + 1) = cntE t c + 1 := by show cntE t c + _ = _; rw [if_pos hc]
    omega
  · exact h
  · have h3 := cntE_mono (t := t) (show d + 1 ≤ c from h)
    have h4 : cntE t (d + 1) = cntE t d + 1 := by show cntE t d + _ = _; rw [if_pos hd]
    omega
theorem posE_eq {t : Nat → Nat} {n c k : Nat} (hc : c < n) (h0 : t c = 0) (hk : cntE t c = k) : posE t n k = c := by
  unfold posE
  cases hf : (List.range n).find? (fun c => decide (t c = 0) && decide (cntE t c = k)) with
  | none =>
    have := List.find?_eq_none.mp hf c (List.mem_range.mpr hc)
    simp [h0, hk] at this
  | some d =>
    have h1 := List.find?_some hf
    simp only [Bool.and_eq_true, decide_eq_true_eq] at h1
    exact posE_uniq h1.1 h0 h1.2 hk
theorem posE_spec {t : Nat → Nat} {n k : Nat} (h : k < cntE t n) : posE t n k < n ∧ t (posE t n k) = 0 ∧ cntE t (posE t n k) = k := by
  obtain ⟨c, h1, h2, h3⟩ := posE_ex h
  rw [posE_eq h1 h2 h3]
  exact ⟨h1, h2, h3⟩
theorem drawT_pos {t : Nat → Nat} {z : Nat} (h : cntE t 9 ≠ 0) : ∃ c, c < 9 ∧ t c = 0 ∧ cntE t c = nxt z / 65536 % cntE t 9 ∧ drawT t z = updN t c (newTile z) := by
  have hl : nxt z / 65536 % cntE t 9 < cntE t 9 := Nat.mod_lt _ (by omega)
  obtain ⟨h1, h2, h3⟩ := posE_spec (n := 9) hl
  exact ⟨_, h1, h2, h3, by unfold drawT; rw [if_neg h]⟩
theorem drawT_lt {n : Nat} {t : Nat → Nat} (h : tl n t) (hn : 2 < n) (z : Nat) : tl n (drawT t z) := by
  by_cases h0 : cntE t 9 = 0
  · unfold drawT; rw [if_pos h0]; exact h
  · obtain ⟨c, -, -, -, e⟩ := drawT_pos (z := z) h0
    rw [e]
    intro i hi
    unfold updN
    have := newTile_le z
    split
    · omega
    · exact h i hi
theorem wt_upd {t : Nat → Nat} {c v : Nat} (hc : c < 9) (h0 : t c = 0) : wt (updN t c v) = wt t + tw v := by
  rcases (show c = 0 ∨ c = 1 ∨ c = 2 ∨ c = 3 ∨ c = 4 ∨ c = 5 ∨ c = 6 ∨ c = 7 ∨ c = 8 by omega) with rfl | rfl | rfl | rfl | rfl | rfl | rfl | rfl | rfl <;> (simp [wt, updN, h0, tw_0]; try omega)
theorem drawT_w (t : Nat → Nat) (z : Nat) : wt (drawT t z) ≤ wt t + 4 := by
  by_cases h0 : cntE t 9 = 0
  · unfold drawT; rw [if_pos h0]; omega
  · obtain ⟨c, h1, h2, -, e⟩ := drawT_pos (z := z) h0
    rw [e, wt_upd h1 h2]
    have := newTile_le z
    have : tw (newTile z) ≤ 4 := by
      rcases (show newTile z = 1 ∨ newTile z = 2 by omega) with h | h <;> rw [h] <;> decide
    omega
theorem drawT_congr {t u : Nat → Nat} (h : eq9 t u) (z : Nat) : eq9 (drawT t z) (drawT u z) := by
  have hc : cntE t 9 = cntE u 9 := cntE_congr h
  by_cases h0 : cntE t 9 = 0
  · unfold drawT
    rw [if_pos h0, if_pos (by rw [← hc]; exact h0)]
    exact h
  · obtain ⟨c, h1, h2, h3, e⟩ := drawT_pos (z := z) h0
    obtain ⟨d, g1, g2, g3, e'⟩ := drawT_pos (t := u) (z := z) (by rw [← hc]; exact h0)
    have hcd : c = d := posE_uniq (t := t) h2 (by rw [h d g1]; exact g2) h3 (by rw [cntE_congr (u := u) (fun i hi => h i (by omega)), hc]; exact g3)
    subst hcd
    rw [e, e']
    intro i hi
    unfold updN
    rw [h i hi]
/-- a push can be done -/
def goT (t : Nat → Nat) (to : Nat) : Prop := ¬ eq9 (pushT t to) t
theorem eq9_dec (t u : Nat → Nat) : eq9 t u ∨ ¬ eq9 t u := Classical.em _
