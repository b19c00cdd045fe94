/-! the Cache: its methods that change it -/
def hm_fr (S : Nat → Prop) (f f' : Hm) : Prop := ∀ q : Nat, ¬ S q → f' q = f q
theorem hm_fr.rf {S : Nat → Prop} {f : Hm} : hm_fr S f f := fun _ _ => rfl
theorem hm_fr.tr {S : Nat → Prop} {f g h : Hm} (h1 : hm_fr S f g) (h2 : hm_fr S g h) : hm_fr S f h := fun q hq => (h2 q hq).trans (h1 q hq)
theorem hm_fr.up {S : Nat → Prop} {f g : Hm} {a : Nat} {e : va_E} (h : hm_fr S f g) (ha : S a) : hm_fr S f (hm_up g a e) := fun q hq => (hm_un (fun z => hq (by rw [z]; exact ha))).trans (h q hq)
theorem hm_fr.mono {S T : Nat → Prop} {f g : Hm} (h : hm_fr S f g) (hST : ∀ q, S q → T q) : hm_fr T f g := fun q hq => h q (fun z => hq (hST q z))
def cS (c n : Nat) (en : Nat → Nat) : Nat → Prop := fun q => q = c ∨ ∃ i, i < n ∧ q = en i
def updE (E : Nat → EV) (i : Nat) (y : EV) : Nat → EV := fun j => if j = i then y else E j
theorem updE_s {E : Nat → EV} {i : Nat} {y : EV} : updE E i y i = y := if_pos rfl
theorem updE_n {E : Nat → EV} {i j : Nat} {y : EV} (h : j ≠ i) : updE E i y j = E j := if_neg h
section CAL
variable {Γ : Gm} {f : Hm} {c sl n : Nat} {en : Nat → Nat} {E : Nat → EV} {cn rm us : Int32}
theorem CA.ne1 (h : CA Γ f c sl n en E cn rm us) {i : Nat} (hi : i < n) : en i ≠ c := hm_ne (h.2.2.1 i hi) h.1 (fun q => by injection q with q; injection q with q; cases q)
theorem CA.ne2 (h : CA Γ f c sl n en E cn rm us) {i : Nat} (hi : i < n) : en i ≠ sl := by
  obtain ⟨g, hg, -⟩ := h.2.1
  exact hm_ne (h.2.2.1 i hi) hg (fun q => by cases q)
theorem CA.ne3 (h : CA Γ f c sl n en E cn rm us) : c ≠ sl := by
  obtain ⟨g, hg, -⟩ := h.2.1
  exact hm_ne h.1 hg (fun q => by cases q)
theorem CA.ent (h : CA Γ f c sl n en E cn rm us) {i : Nat} (hi : i < n) (y : EV) : CA Γ (hm_up f (en i) (ev y)) c sl n en (updE E i y) cn rm us := by
  obtain ⟨h1, ⟨g, h2, h3⟩, h4, h5⟩ := id h
  refine ⟨(hm_un (Ne.symm (h.ne1 hi))).trans h1, ⟨g, (hm_un (Ne.symm (h.ne2 hi))).trans h2, h3⟩, fun j hj => ?_, h5⟩
  by_cases hji : j = i
  · rw [hji, updE_s]; exact hm_us
  · rw [updE_n hji, hm_un (fun q => hji (h5 j i hj hi q))]
    exact h4 j hj
theorem CA.hd (h : CA Γ f c sl n en E cn rm us) (cn' rm' us' : Int32) : CA Γ (hm_up f c (eR 1 [.ref sl, .int cn', .int rm', .int us'])) c sl n en E cn' rm' us' := by
  obtain ⟨h1, ⟨g, h2, h3⟩, h4, h5⟩ := id h
  exact ⟨hm_us, ⟨g, (hm_un (Ne.symm h.ne3)).trans h2, h3⟩, fun j hj => (hm_un (h.ne1 hj)).trans (h4 j hj), h5⟩
theorem CA.kept {f' : Hm} {S : Nat → Prop} (h : CA Γ f c sl n en E cn rm us) (hf : hm_fr S f f') (h1 : ¬ S c) (h2 : ¬ S sl) (h3 : ∀ i, i < n → ¬ S (en i)) : CA Γ f' c sl n en E cn rm us := by
  obtain ⟨g1, ⟨g, g2, g3⟩, g4, g5⟩ := h
  exact ⟨(hf c h1).trans g1, ⟨g, (hf sl h2).trans g2, g3⟩, fun i hi => (hf _ (h3 i hi)).trans (g4 i hi), g5⟩
theorem CA.ext {E' : Nat → EV} (h : CA Γ f c sl n en E cn rm us) (he : ∀ i, i < n → E i = E' i) : CA Γ f c sl n en E' cn rm us := ⟨h.1, h.2.1, fun i hi => by rw [← he i hi]; exact h.2.2.1 i hi, h.2.2.2⟩
end CAL
def mixE (A B : Nat → EV) (i : Nat) : Nat → EV := fun j => if j < i then A j else B j
theorem mixE_s {A B : Nat → EV} {i : Nat} : updE (mixE A B i) i (A i) = mixE A B (i + 1) := by
  funext j
  unfold updE mixE
  by_cases h : j = i
  · subst h
    rw [if_pos rfl, if_pos (Nat.lt_succ_self _)]
  · rw [if_neg h]
    by_cases hl : j < i
    · rw [if_pos hl, if_pos (by omega)]
    · rw [if_neg hl, if_neg (by omega)]
theorem mixE_0 {A B : Nat → EV} : mixE A B 0 = B := funext fun j => if_neg (Nat.not_lt_zero j)
theorem mixE_i {A B : Nat → EV} {i : Nat} : mixE A B i i = B i := if_neg (Nat.lt_irrefl i)
theorem mixE_n {A B : Nat → EV} {n j : Nat} (h : j < n) : mixE A B n j = A j := if_pos h
def setD (x : EV) (d : Int32) : EV := (x.1, x.2.1, d, x.2.2.2)
def setU (x : EV) (u : Int32) : EV := (x.1, x.2.1, x.2.2.1, x.2.2.2.1, x.2.2.2.2.1, u, x.2.2.2.2.2.2)
def setP (x : EV) (pn : Int32) : EV := (x.1, x.2.1, x.2.2.1, x.2.2.2.1, x.2.2.2.2.1, x.2.2.2.2.2.1, pn)
def fstP (P : Nat → Bool) : Nat → Option Nat
  | 0 => none
  | n + 1 => match fstP P n with
    | some i => some i
    | none => if P n = true then some n else none
theorem fstP_none {P : Nat → Bool} : ∀ {n : Nat}, (∀ j, j < n → P j = false) → fstP P n = none
  | 0, _ => rfl
  | n + 1, h => by
    unfold fstP
    rw [fstP_none (n := n) (fun j hj => h j (by omega))]
    dsimp only
    rw [if_neg (by rw [h n (by omega)]; decide)]
theorem fstP_some {P : Nat → Bool} {i : Nat} (hi : P i = true) (hj : ∀ j, j < i → P j = false) : ∀ {n : Nat}, i < n → fstP P n = some i
  | 0, h => by omega
  | n + 1, h => by
    unfold fstP
    by_cases q : i = n
    · subst q
      rw [fstP_none hj]
      dsimp only
      rw [if_pos hi]
    · rw [fstP_some hi hj (n := n) (by omega)]
theorem fstP_spec {P : Nat → Bool} : ∀ {n i : Nat}, fstP P n = some i → i < n ∧ P i = true
  | 0, i, h => by cases h
  | n + 1, i, h => by
    unfold fstP at h
    cases hq : fstP P n with
    | none =>
      rw [hq] at h
      dsimp only at h
      split at h
      · cases h; exact ⟨by omega, by assumption⟩
      · cases h
    | some j =>
      rw [hq] at h
      cases h
      exact ⟨by have := (fstP_spec hq).1; omega, (fstP_spec hq).2⟩
theorem fstP_nspec {P : Nat → Bool} : ∀ {n : Nat}, fstP P n = none → ∀ j, j < n → P j = false
  | 0, _, j, hj => by omega
  | n + 1, h, j, hj => by
    unfold fstP at h
    cases hq : fstP P n with
    | none =>
      rw [hq] at h
      dsimp only at h
      split at h
      · cases h
      · rename_i hn
        by_cases q : j = n
        · rw [q]; cases hp : P n with
          | true => exact absurd hp hn
          | false => rfl
        · exact fstP_nspec hq j (by omega)
    | some i => rw [hq] at h; cases h
def drC (n : Nat) (q : (Nat → EV) × Int32) : (Nat → EV) × Int32 := match oldI q.1 n with
  | none => q
  | some o => (updE q.1 o (setD (q.1 o) 0), q.2 - 1)
def putC (n : Nat) (E : Nat → EV) (cn rm us : Int32) (b : Int64) (z d w pu : Int32) : (Nat → EV) × Int32 × Int32 :=
  let q := if cn < rm then (E, cn) else drC n (E, cn)
  match fstP (fun j => decide ((q.1 j).2.2.1 = 0)) n with
  | none => (q.1, q.2, us)
  | some i => if rm ≤ q.2 then (q.1, q.2, us) else (updE q.1 i (b, z, d, w, pu, us + 1, (q.1 i).2.2.2.2.2.2), q.2 + 1, us + 1)
def dropK (n : Nat) : Nat → (Nat → EV) × Int32 → (Nat → EV) × Int32
  | 0, q => q
  | k + 1, q => dropK n k (drC n q)
set_option maxHeartbeats 4000000 in
set_option maxRecDepth 100000 in
theorem c_X1_use (Γ : Gm) (l : Launch) (c0 sl e0 : Nat) (cn rm us : Int32) (x : EV) (f : Hm) (hc : f c0 = some (eR 1 [.ref sl, .int cn, .int rm, .int us])) (he : f e0 = some (ev x)) : Ct Γ l yX1_use cX1_use 2 (none : Option Jvm.ClassFile.FieldType) 1 0 0 [.ref c0, .ref e0] f (pV (hm_up (hm_up f c0 (eR 1 [.ref sl, .int cn, .int rm, .int (us + 1)])) e0 (ev (setU x (us + 1))))) := by
  refine Ct_of (by decide +kernel) (Nat.le_of_ble_eq_true rfl) ?_
  intro p e s m args below meth c hx hb hr hml hown hin hlocks hts hH hO hK ls hl
  have hl : lv_has ls 2 [(0, .ref c0), (1, .ref e0)] := hl
  have hS : va_S (gA Γ) s.heap s.heap [] := va_S.rf
  refine lv_aload_n hx hb dX1_use_0 rfl (lv_at hl 0 rfl) ?_
  refine lv_dup hx hb dX1_use_1 rfl ?_
  refine gf_X1_18 hx hb hts hown hK hH hc rfl dX1_use_2 ?_
  refine lv_iconst (v := 1) hx hb dX1_use_5 (by decide) ?_
  refine lv_iadd hx hb dX1_use_6 ?_
  refine lv_topi (fun v1 ev1 => ?_)
  refine pf_X1_18 hx hb hts hown hK hO hS hH hc rfl (Nat.le_of_ble_eq_true rfl) rfl dX1_use_7 (fun H locs hH hS => ?_)
  obtain ⟨f2, ef2⟩ : ∃ zz_, zz_ = hm_up f c0 (eR 1 [.ref sl, .int cn, .int rm, .int v1]) := ⟨_, rfl⟩
  have hH : hm_H Γ f2 H := by rw [ef2]; exact hH
  have h3 : f2 c0 = some (eR 1 [.ref sl, .int cn, .int rm, .int v1]) := by rw [ef2]; exact hm_us
  have h4 : f2 e0 = some (eR 2 [.long x.1, .int x.2.1, .int x.2.2.1, .int x.2.2.2.1, .int x.2.2.2.2.1, .int x.2.2.2.2.2.1, .int x.2.2.2.2.2.2]) := by rw [ef2]; exact (hm_un (hm_ne he hc (fun q => by injection q with q; injection q with q; cases q))).trans he
  refine lv_aload_n hx hb dX1_use_10 rfl (lv_at hl 1 rfl) ?_
  refine lv_aload_n hx hb dX1_use_11 rfl (lv_at hl 0 rfl) ?_
  refine gf_X1_18 hx hb hts hown hK hH h3 rfl dX1_use_12 ?_
  refine pf_X1_42 hx hb hts hown hK hO hS hH h4 rfl (Nat.le_of_ble_eq_true rfl) rfl dX1_use_15 (fun H locs hH hS => ?_)
  obtain ⟨f5, ef5⟩ : ∃ zz_, zz_ = hm_up f2 e0 (eR 2 [.long x.1, .int x.2.1, .int x.2.2.1, .int x.2.2.2.1, .int x.2.2.2.2.1, .int v1, .int x.2.2.2.2.2.2]) := ⟨_, rfl⟩
  have hH : hm_H Γ f5 H := by rw [ef5]; exact hH
  have h6 : f5 e0 = some (eR 2 [.long x.1, .int x.2.1, .int x.2.2.1, .int x.2.2.2.1, .int x.2.2.2.2.1, .int v1, .int x.2.2.2.2.2.2]) := by rw [ef5]; exact hm_us
  have h7 : f5 c0 = some (eR 1 [.ref sl, .int cn, .int rm, .int v1]) := by rw [ef5]; exact (hm_un (hm_ne h3 h4 (fun q => by injection q with q; injection q with q; cases q))).trans h3
  subst ef5
  subst ef2
  subst ev1
  exact hm_vret hx hb hr hlocks hS hH (⟨rfl, by first | rfl | (simp only [hm_uu]; rfl)⟩) (Nat.le_of_ble_eq_true rfl) (Nat.le_of_ble_eq_true rfl) dX1_use_18
set_option maxHeartbeats 4000000 in
set_option maxRecDepth 100000 in
theorem c_X1_takePins (Γ : Gm) (l : Launch) (bit : Int32) (c0 sl n : Nat) (en : Nat → Nat) (E : Nat → EV) (cn rm us : Int32) (f : Hm) (hC : CA Γ f c0 sl n en E cn rm us) (hn : n ≤ 64) : Ct Γ l yX1_takePins cX1_takePins 6 (none : Option Jvm.ClassFile.FieldType) 1 0 0 [.ref c0, .int bit] f (fun v f' => v = none ∧ CA Γ f' c0 sl n en (fun j => setP (E j) ((E j).2.2.2.2.2.2 &&& (bit ^^^ (-1)))) cn rm us ∧ hm_fr (cS c0 n en) f f') := by
  refine Ct_of (by decide +kernel) (Nat.le_of_ble_eq_true rfl) ?_
  intro p e s m args below meth c hx hb hr hml hown hin hlocks hts hH hO hK ls hl
  have hl : lv_has ls 6 [(0, .ref c0), (1, .int bit)] := hl
  have hS : va_S (gA Γ) s.heap s.heap [] := va_S.rf
  have loop : ∀ (k_ i : Nat) (f1 : Hm), i + k_ = n → CA Γ f1 c0 sl n en (mixE (fun j => setP (E j) ((E j).2.2.2.2.2.2 &&& (bit ^^^ (-1)))) E i) cn rm us → hm_fr (cS c0 n en) f f1 → ∀ (H : Heap) (locs : List Loc), hm_H Γ f1 H → va_S (gA Γ) s.heap H locs → ∀ ls : Array Slot, lv_has ls 6 [(4, .int (nI i)), (3, .int (nI n)), (2, .ref sl), (0, .ref c0), (1, .int bit)] → W p l e (rmk 1 0 0) s m args below meth c H locs 0 0 (MQ below (hm_Q Γ (fun v f' => v = none ∧ CA Γ f' c0 sl n en (fun j => setP (E j) ((E j).2.2.2.2.2.2 &&& (bit ^^^ (-1)))) cn rm us ∧ hm_fr (cS c0 n en) f f')) args s 0 0 (gA Γ)) (F0 m 11 ls []) := by
    intro k_
    induction k_ with
    | zero =>
      intro i f1 hin_ hC1 hfr H locs hH hS ls hl
      have hi : i = n := by omega
      subst hi
      refine lv_iload hx hb dX1_takePins_11 (lv_at hl 0 rfl) ?_
      refine lv_iload_n hx hb dX1_takePins_13 rfl (lv_at hl 1 rfl) ?_
      refine lv_icmp_ge (tgt := 42) hx hb dX1_takePins_14 (by decide) (fun _ => ?_) (fun c1 => absurd (nI_le (Nat.le_refl _) (by omega)) c1)
      exact hm_vret hx hb hr hlocks hS hH (⟨rfl, hC1.ext (fun j hj => mixE_n hj), hfr⟩) (Nat.le_of_ble_eq_true rfl) (Nat.le_of_ble_eq_true rfl) dX1_takePins_42
    | succ k_ ih =>
      intro i f1 hin_ hC1 hfr H locs hH hS ls hl
      have hi : i < n := by omega
      obtain ⟨hc, ⟨g, hsl, hg⟩, hE, hinj⟩ := id hC1
      have hei : f1 (en i) = some (ev (E i)) := by rw [hE i hi, mixE_i]
      refine lv_iload hx hb dX1_takePins_11 (lv_at hl 0 rfl) ?_
      refine lv_iload_n hx hb dX1_takePins_13 rfl (lv_at hl 1 rfl) ?_
      refine lv_icmp_ge (tgt := 42) hx hb dX1_takePins_14 (by decide) (fun c1 => absurd c1 (nI_ge hi (by omega))) (fun _ => ?_)
      refine lv_aload_n hx hb dX1_takePins_17 rfl (lv_at hl 2 rfl) ?_
      refine lv_iload hx hb dX1_takePins_18 (lv_at hl 0 rfl) ?_
      refine hm_naldE hx hb hK hH hsl (vp_in_nI hi (by omega)) dX1_takePins_20 ?_
      refine W.eq (g2 := F0 m 21 ls (.ref (en i) :: [])) (congrArg (fun x_ => F0 m 21 ls (x_ :: [])) (by rw [nI_clamp (by omega), hg i hi]; rfl)) ?_
      refine lv_astore (lv' := [(5, .ref (en i)), (4, .int (nI i)), (3, .int (nI n)), (2, .ref sl), (0, .ref c0), (1, .int bit)]) hx hb dX1_takePins_21 hl (by decide) rfl (fun ls hl => ?_)
      refine lv_aload hx hb dX1_takePins_23 (lv_at hl 0 rfl) ?_
      refine lv_dup hx hb dX1_takePins_25 rfl ?_
      refine gf_X1_71 hx hb hts hown hK hH hei rfl dX1_takePins_26 ?_
      refine lv_iload_n hx hb dX1_takePins_29 rfl (lv_at hl 5 rfl) ?_
      refine lv_iconst (v := (-1)) hx hb dX1_takePins_30 (by decide) ?_
      refine lv_ixor hx hb dX1_takePins_31 ?_
      refine lv_topi (fun v2 ev2 => ?_)
      refine lv_iand hx hb dX1_takePins_32 ?_
      refine lv_topi (fun v3 ev3 => ?_)
      refine pf_X1_71 hx hb hts hown hK hO hS hH hei rfl (Nat.le_of_ble_eq_true rfl) rfl dX1_takePins_33 (fun H locs hH hS => ?_)
      obtain ⟨f4, ef4⟩ : ∃ zz_, zz_ = hm_up f1 (en i) (eR 2 [.long ((E i).1), .int ((E i).2.1), .int ((E i).2.2.1), .int ((E i).2.2.2.1), .int ((E i).2.2.2.2.1), .int ((E i).2.2.2.2.2.1), .int v3]) := ⟨_, rfl⟩
      have hH : hm_H Γ f4 H := by rw [ef4]; exact hH
      have h5 : f4 (en i) = some (eR 2 [.long ((E i).1), .int ((E i).2.1), .int ((E i).2.2.1), .int ((E i).2.2.2.1), .int ((E i).2.2.2.2.1), .int ((E i).2.2.2.2.2.1), .int v3]) := by rw [ef4]; exact hm_us
      have h6 : f4 sl = some (eN Γ n g) := by rw [ef4]; exact (hm_un (hm_ne hsl hei (fun q => by cases q))).trans hsl
      refine lv_iinc (v := (nI (i + 1))) (lv' := [(4, .int ((nI (i + 1)))), (5, .ref (en i)), (3, .int (nI n)), (2, .ref sl), (0, .ref c0), (1, .int bit)]) hx hb dX1_takePins_36 hl (k := 1) rfl (nI_1 i) (by decide) rfl (fun ls hl => ?_)
      refine lv_goto (tgt := 11) hx hb dX1_takePins_39 (by decide) ?_
      subst ef4
      subst ev3
      subst ev2
      have hC2 := hC1.ent hi (setP (E i) ((E i).2.2.2.2.2.2 &&& (bit ^^^ (-1))))
      rw [mixE_s (A := (fun j => setP (E j) ((E j).2.2.2.2.2.2 &&& (bit ^^^ (-1)))))] at hC2
      exact ih (i + 1) _ (by omega) hC2 (hfr.up (Or.inr ⟨i, hi, rfl⟩)) H locs hH hS ls (lv_sub hl [0, 2, 3, 4, 5] rfl)
  obtain ⟨hc, ⟨g, hsl, hg⟩, hE, hinj⟩ := id hC
  refine lv_aload_n hx hb dX1_takePins_0 rfl (lv_at hl 0 rfl) ?_
  refine gf_X1_29 hx hb hts hown hK hH hc rfl dX1_takePins_1 ?_
  refine lv_astore_n (lv' := [(2, .ref sl), (0, .ref c0), (1, .int bit)]) hx hb dX1_takePins_4 rfl hl (by decide) rfl (fun ls hl => ?_)
  refine lv_aload_n hx hb dX1_takePins_5 rfl (lv_at hl 0 rfl) ?_
  refine hm_alen (v := nI n) hx hb hK hH 3 hsl rfl rfl dX1_takePins_6 ?_
  refine lv_istore_n (lv' := [(3, .int (nI n)), (2, .ref sl), (0, .ref c0), (1, .int bit)]) hx hb dX1_takePins_7 rfl hl (by decide) rfl (fun ls hl => ?_)
  refine lv_iconst (v := 0) hx hb dX1_takePins_8 (by decide) ?_
  refine lv_istore (lv' := [(4, .int 0), (3, .int (nI n)), (2, .ref sl), (0, .ref c0), (1, .int bit)]) hx hb dX1_takePins_9 hl (by decide) rfl (fun ls hl => ?_)
  exact loop n 0 f (by omega) (by rw [mixE_0]; exact hC) hm_fr.rf s.heap [] hH hS ls (lv_sub hl [0, 1, 2, 3, 4] rfl)
/-- what dropOldest leaves -/
def drF (f : Hm) (c sl n : Nat) (en : Nat → Nat) (E : Nat → EV) (cn rm us : Int32) : Hm := match oldI E n with
  | none => f
  | some o => hm_up (hm_up f (en o) (ev (setD (E o) 0))) c (eR 1 [.ref sl, .int (cn - 1), .int rm, .int us])
theorem oldI_keep {E : Nat → EV} {i : Nat} (h : elig (E i) = false) : oldI E (i + 1) = oldI E i := by
  rw [oldI]
  cases hq : oldI E i with
  | none => simp [h]
  | some o => simp [h]
theorem oldI_first {E : Nat → EV} {i : Nat} (h : elig (E i) = true) (h0 : oldI E i = none) : oldI E (i + 1) = some i := by
  show (match oldI E i with | none => _ | some o => _) = _
  rw [h0]; simp [h]
theorem oldI_new {E : Nat → EV} {i o : Nat} (h : elig (E i) = true) (h0 : oldI E i = some o) (hl : (E i).2.2.2.2.2.1 < (E o).2.2.2.2.2.1) : oldI E (i + 1) = some i := by
  show (match oldI E i with | none => _ | some o => _) = _
  rw [h0]; simp [h, hl]
theorem oldI_old {E : Nat → EV} {i o : Nat} (h0 : oldI E i = some o) (hl : ¬ (E i).2.2.2.2.2.1 < (E o).2.2.2.2.2.1) : oldI E (i + 1) = some o := by
  show (match oldI E i with | none => _ | some o => _) = _
  rw [h0]; simp [hl]
theorem elig_f1 {x : EV} (h : x.2.2.1 = 0) : elig x = false := by unfold elig; simp [h]
theorem elig_f2 {x : EV} (h : ¬ x.2.2.2.2.2.2 = 0) : elig x = false := by unfold elig; simp [h]
theorem elig_t {x : EV} (h : ¬ x.2.2.1 = 0) (h2 : x.2.2.2.2.2.2 = 0) : elig x = true := by unfold elig; simp [h, h2]
set_option maxHeartbeats 4000000 in
set_option maxRecDepth 100000 in
theorem c_X1_dropOldest (Γ : Gm) (l : Launch) (c0 sl n : Nat) (en : Nat → Nat) (E : Nat → EV) (cn rm us : Int32) (f : Hm) (hC : CA Γ f c0 sl n en E cn rm us) (hn : n ≤ 64) : Ct Γ l yX1_dropOldest cX1_dropOldest 6 (none : Option Jvm.ClassFile.FieldType) 2 0 0 [.ref c0] f (pV (drF f c0 sl n en E cn rm us)) := by
  refine Ct_of (by decide +kernel) (Nat.le_of_ble_eq_true rfl) ?_
  intro p e s m args below meth c hx hb hr hml hown hin hlocks hts hH hO hK ls hl
  have hl : lv_has ls 6 [(0, .ref c0)] := hl
  have hS : va_S (gA Γ) s.heap s.heap [] := va_S.rf
  obtain ⟨hc, ⟨g, hsl, hg⟩, hE, hinj⟩ := id hC
  have loop : ∀ (k_ i : Nat) (ov : Value), i + k_ = n → ((oldI E i = none ∧ ov = .null) ∨ ∃ o, oldI E i = some o ∧ ov = .ref (en o)) → ∀ (H : Heap) (locs : List Loc), hm_H Γ f H → va_S (gA Γ) s.heap H locs → ∀ ls : Array Slot, lv_has ls 6 [(4, .int (nI i)), (1, ov), (3, .int (nI n)), (2, .ref sl), (0, .ref c0)] → W p l e (rmk 2 0 0) s m args below meth c H locs 0 0 (MQ below (hm_Q Γ (pV (drF f c0 sl n en E cn rm us))) args s 0 0 (gA Γ)) (F0 m 13 ls []) := by
    intro k_
    induction k_ with
    | zero =>
      intro i ov hin_ hov H locs hH hS ls hl
      have hi : i = n := by omega
      subst hi
      rcases hov with ⟨ho, rfl⟩ | ⟨o, ho, rfl⟩
      · refine lv_iload hx hb dX1_dropOldest_13 (lv_at hl 0 rfl) ?_
        refine lv_iload_n hx hb dX1_dropOldest_15 rfl (lv_at hl 2 rfl) ?_
        refine lv_icmp_ge (tgt := 66) hx hb dX1_dropOldest_16 (by decide) (fun _ => ?_) (fun c1 => absurd (nI_le (Nat.le_refl _) (by omega)) c1)
        refine lv_aload_nN hx hb dX1_dropOldest_66 rfl (lv_at hl 1 rfl) ?_
        refine lv_ifnullN (tgt := 85) hx hb dX1_dropOldest_67 (by decide) ?_
        exact hm_vret hx hb hr hlocks hS hH (⟨rfl, by unfold drF; rw [ho]⟩) (Nat.le_of_ble_eq_true rfl) (Nat.le_of_ble_eq_true rfl) dX1_dropOldest_85
      · have hoi := oldI_lt ho
        refine lv_iload hx hb dX1_dropOldest_13 (lv_at hl 0 rfl) ?_
        refine lv_iload_n hx hb dX1_dropOldest_15 rfl (lv_at hl 2 rfl) ?_
        refine lv_icmp_ge (tgt := 66) hx hb dX1_dropOldest_16 (by decide) (fun _ => ?_) (fun c1 => absurd (nI_le (Nat.le_refl _) (by omega)) c1)
        refine lv_aload_n hx hb dX1_dropOldest_66 rfl (lv_at hl 1 rfl) ?_
        refine lv_ifnull hx hb dX1_dropOldest_67 ?_
        refine lv_aload_n hx hb dX1_dropOldest_70 rfl (lv_at hl 1 rfl) ?_
        refine lv_iconst (v := 0) hx hb dX1_dropOldest_71 (by decide) ?_
        refine pf_X1_59 hx hb hts hown hK hO hS hH (hE o hoi) rfl (Nat.le_of_ble_eq_true rfl) rfl dX1_dropOldest_72 (fun H locs hH hS => ?_)
        obtain ⟨f2, ef2⟩ : ∃ zz_, zz_ = hm_up f (en o) (eR 2 [.long ((E o).1), .int ((E o).2.1), .int 0, .int ((E o).2.2.2.1), .int ((E o).2.2.2.2.1), .int ((E o).2.2.2.2.2.1), .int ((E o).2.2.2.2.2.2)]) := ⟨_, rfl⟩
        have hH : hm_H Γ f2 H := by rw [ef2]; exact hH
        have h3 : f2 (en o) = some (eR 2 [.long ((E o).1), .int ((E o).2.1), .int 0, .int ((E o).2.2.2.1), .int ((E o).2.2.2.2.1), .int ((E o).2.2.2.2.2.1), .int ((E o).2.2.2.2.2.2)]) := by rw [ef2]; exact hm_us
        have h4 : f2 c0 = some (eR 1 [.ref sl, .int cn, .int rm, .int us]) := by rw [ef2]; exact (hm_un (hm_ne hc (hE o hoi) (fun q => by injection q with q; injection q with q; cases q))).trans hc
        have h5 : f2 sl = some (eN Γ i g) := by rw [ef2]; exact (hm_un (hm_ne hsl (hE o hoi) (fun q => by cases q))).trans hsl
        refine lv_aload_n hx hb dX1_dropOldest_75 rfl (lv_at hl 4 rfl) ?_
        refine lv_dup hx hb dX1_dropOldest_76 rfl ?_
        refine gf_X1_9 hx hb hts hown hK hH h4 rfl dX1_dropOldest_77 ?_
        refine lv_iconst (v := 1) hx hb dX1_dropOldest_80 (by decide) ?_
        refine lv_isub hx hb dX1_dropOldest_81 ?_
        refine lv_topi (fun v6 ev6 => ?_)
        refine pf_X1_9 hx hb hts hown hK hO hS hH h4 rfl (Nat.le_of_ble_eq_true rfl) rfl dX1_dropOldest_82 (fun H locs hH hS => ?_)
        obtain ⟨f7, ef7⟩ : ∃ zz_, zz_ = hm_up f2 c0 (eR 1 [.ref sl, .int v6, .int rm, .int us]) := ⟨_, rfl⟩
        have hH : hm_H Γ f7 H := by rw [ef7]; exact hH
        have h8 : f7 c0 = some (eR 1 [.ref sl, .int v6, .int rm, .int us]) := by rw [ef7]; exact hm_us
        have h9 : f7 sl = some (eN Γ i g) := by rw [ef7]; exact (hm_un (hm_ne h5 h4 (fun q => by cases q))).trans h5
        have h10 : f7 (en o) = some (eR 2 [.long ((E o).1), .int ((E o).2.1), .int 0, .int ((E o).2.2.2.1), .int ((E o).2.2.2.2.1), .int ((E o).2.2.2.2.2.1), .int ((E o).2.2.2.2.2.2)]) := by rw [ef7]; exact (hm_un (hm_ne h3 h4 (fun q => by injection q with q; injection q with q; cases q))).trans h3
        subst ef7
        subst ev6
        subst ef2
        exact hm_vret hx hb hr hlocks hS hH (⟨rfl, by unfold drF; rw [ho]; rfl⟩) (Nat.le_of_ble_eq_true rfl) (Nat.le_of_ble_eq_true rfl) dX1_dropOldest_85
    | succ k_ ih =>
      intro i ov hin_ hov H locs hH hS ls hl
      have hi : i < n := by omega
      rcases hov with ⟨ho, rfl⟩ | ⟨o, ho, rfl⟩
      · refine lv_iload hx hb dX1_dropOldest_13 (lv_at hl 0 rfl) ?_
        refine lv_iload_n hx hb dX1_dropOldest_15 rfl (lv_at hl 2 rfl) ?_
        refine lv_icmp_ge (tgt := 66) hx hb dX1_dropOldest_16 (by decide) (fun c1 => absurd c1 (nI_ge hi (by omega))) (fun _ => ?_)
        refine lv_aload_n hx hb dX1_dropOldest_19 rfl (lv_at hl 3 rfl) ?_
        refine lv_iload hx hb dX1_dropOldest_20 (lv_at hl 0 rfl) ?_
        refine hm_naldE hx hb hK hH hsl (vp_in_nI hi (by omega)) dX1_dropOldest_22 ?_
        refine W.eq (g2 := F0 m 23 ls (.ref (en i) :: [])) (congrArg (fun x_ => F0 m 23 ls (x_ :: [])) (by rw [nI_clamp (by omega), hg i hi]; rfl)) ?_
        refine lv_astore (lv' := [(5, .ref (en i)), (4, .int (nI i)), (1, .null), (3, .int (nI n)), (2, .ref sl), (0, .ref c0)]) hx hb dX1_dropOldest_23 hl (by decide) rfl (fun ls hl => ?_)
        refine lv_aload hx hb dX1_dropOldest_25 (lv_at hl 0 rfl) ?_
        refine hm_callV (rest := []) (k := 1) q3_207 q3_208 q1_7 q3_210 q3_209 rfl nm_X2_isFree rfl hx hb hml hown hts hK hO hS hH hl.1 (hE i hi) (c_X2_isFree Γ l (en i) (E i) _ (hE i hi)) ⟨Nat.le_of_ble_eq_true rfl, Nat.le_of_ble_eq_true rfl⟩ ⟨Nat.le_of_ble_eq_true rfl, Nat.le_of_ble_eq_true rfl⟩ rfl (Nat.le_of_ble_eq_true rfl) dX1_dropOldest_27 (fun v_ f_ H locs hp_ hH hS => ?_)
        obtain ⟨rfl, ef_⟩ := hp_
        rw [ef_] at hH
        clear ef_
        refine W.eq (g2 := F0 m 30 ls [.int (bI (decide ((E i).2.2.1 = 0)))]) rfl ?_
        refine lv_if_ne (tgt := 60) hx hb dX1_dropOldest_30 (by decide) (fun c2 => ?_) (fun c2 => ?_)
        · refine lv_iinc (v := (nI (i + 1))) (lv' := [(4, .int ((nI (i + 1)))), (5, .ref (en i)), (1, .null), (3, .int (nI n)), (2, .ref sl), (0, .ref c0)]) hx hb dX1_dropOldest_60 hl (k := 1) rfl (nI_1 i) (by decide) rfl (fun ls hl => ?_)
          refine lv_goto (tgt := 13) hx hb dX1_dropOldest_63 (by decide) ?_
          exact ih (i + 1) (.null) (by omega) (Or.inl ⟨(oldI_keep (elig_f1 (of_decide_eq_true (bI_n.mp c2)))).trans ho, rfl⟩) H locs hH hS ls (lv_sub hl [0, 2, 3, 4, 5] rfl)
        · refine lv_aload hx hb dX1_dropOldest_33 (lv_at hl 0 rfl) ?_
          refine gf_X1_71 hx hb hts hown hK hH (hE i hi) rfl dX1_dropOldest_35 ?_
          refine lv_if_ne (tgt := 60) hx hb dX1_dropOldest_38 (by decide) (fun c3 => ?_) (fun c3 => ?_)
          · refine lv_iinc (v := (nI (i + 1))) (lv' := [(4, .int ((nI (i + 1)))), (5, .ref (en i)), (1, .null), (3, .int (nI n)), (2, .ref sl), (0, .ref c0)]) hx hb dX1_dropOldest_60 hl (k := 1) rfl (nI_1 i) (by decide) rfl (fun ls hl => ?_)
            refine lv_goto (tgt := 13) hx hb dX1_dropOldest_63 (by decide) ?_
            exact ih (i + 1) (.null) (by omega) (Or.inl ⟨(oldI_keep (elig_f2 c3)).trans ho, rfl⟩) H locs hH hS ls (lv_sub hl [0, 2, 3, 4, 5] rfl)
          · refine lv_aload_nN hx hb dX1_dropOldest_41 rfl (lv_at hl 2 rfl) ?_
            refine lv_ifnullN (tgt := 57) hx hb dX1_dropOldest_42 (by decide) ?_
            refine lv_aload hx hb dX1_dropOldest_57 (lv_at hl 0 rfl) ?_
            refine lv_astore_n (lv' := [(1, .ref (en i)), (5, .ref (en i)), (4, .int (nI i)), (3, .int (nI n)), (2, .ref sl), (0, .ref c0)]) hx hb dX1_dropOldest_59 rfl hl (by decide) rfl (fun ls hl => ?_)
            refine lv_iinc (v := (nI (i + 1))) (lv' := [(4, .int ((nI (i + 1)))), (1, .ref (en i)), (5, .ref (en i)), (3, .int (nI n)), (2, .ref sl), (0, .ref c0)]) hx hb dX1_dropOldest_60 hl (k := 2) rfl (nI_1 i) (by decide) rfl (fun ls hl => ?_)
            refine lv_goto (tgt := 13) hx hb dX1_dropOldest_63 (by decide) ?_
            exact ih (i + 1) (.ref (en i)) (by omega) (Or.inr ⟨i, oldI_first (elig_t (of_decide_eq_false (bI_0.mp c2)) c3) ho, rfl⟩) H locs hH hS ls (lv_sub hl [0, 1, 3, 4, 5] rfl)
      · have hoi : o < n := Nat.lt_trans (oldI_lt ho) hi
        refine lv_iload hx hb dX1_dropOldest_13 (lv_at hl 0 rfl) ?_
        refine lv_iload_n hx hb dX1_dropOldest_15 rfl (lv_at hl 2 rfl) ?_
        refine lv_icmp_ge (tgt := 66) hx hb dX1_dropOldest_16 (by decide) (fun c1 => absurd c1 (nI_ge hi (by omega))) (fun _ => ?_)
        refine lv_aload_n hx hb dX1_dropOldest_19 rfl (lv_at hl 3 rfl) ?_
        refine lv_iload hx hb dX1_dropOldest_20 (lv_at hl 0 rfl) ?_
        refine hm_naldE hx hb hK hH hsl (vp_in_nI hi (by omega)) dX1_dropOldest_22 ?_
        refine W.eq (g2 := F0 m 23 ls (.ref (en i) :: [])) (congrArg (fun x_ => F0 m 23 ls (x_ :: [])) (by rw [nI_clamp (by omega), hg i hi]; rfl)) ?_
        refine lv_astore (lv' := [(5, .ref (en i)), (4, .int (nI i)), (1, .ref (en o)), (3, .int (nI n)), (2, .ref sl), (0, .ref c0)]) hx hb dX1_dropOldest_23 hl (by decide) rfl (fun ls hl => ?_)
        refine lv_aload hx hb dX1_dropOldest_25 (lv_at hl 0 rfl) ?_
        refine hm_callV (rest := []) (k := 1) q3_207 q3_208 q1_7 q3_210 q3_209 rfl nm_X2_isFree rfl hx hb hml hown hts hK hO hS hH hl.1 (hE i hi) (c_X2_isFree Γ l (en i) (E i) _ (hE i hi)) ⟨Nat.le_of_ble_eq_true rfl, Nat.le_of_ble_eq_true rfl⟩ ⟨Nat.le_of_ble_eq_true rfl, Nat.le_of_ble_eq_true rfl⟩ rfl (Nat.le_of_ble_eq_true rfl) dX1_dropOldest_27 (fun v_ f_ H locs hp_ hH hS => ?_)
        obtain ⟨rfl, ef_⟩ := hp_
        rw [ef_] at hH
        clear ef_
        refine W.eq (g2 := F0 m 30 ls [.int (bI (decide ((E i).2.2.1 = 0)))]) rfl ?_
        refine lv_if_ne (tgt := 60) hx hb dX1_dropOldest_30 (by decide) (fun c2 => ?_) (fun c2 => ?_)
        · refine lv_iinc (v := (nI (i + 1))) (lv' := [(4, .int ((nI (i + 1)))), (5, .ref (en i)), (1, .ref (en o)), (3, .int (nI n)), (2, .ref sl), (0, .ref c0)]) hx hb dX1_dropOldest_60 hl (k := 1) rfl (nI_1 i) (by decide) rfl (fun ls hl => ?_)
          refine lv_goto (tgt := 13) hx hb dX1_dropOldest_63 (by decide) ?_
          exact ih (i + 1) (.ref (en o)) (by omega) (Or.inr ⟨o, (oldI_keep (elig_f1 (of_decide_eq_true (bI_n.mp c2)))).trans ho, rfl⟩) H locs hH hS ls (lv_sub hl [0, 2, 3, 4, 5] rfl)
        · refine lv_aload hx hb dX1_dropOldest_33 (lv_at hl 0 rfl) ?_
          refine gf_X1_71 hx hb hts hown hK hH (hE i hi) rfl dX1_dropOldest_35 ?_
          refine lv_if_ne (tgt := 60) hx hb dX1_dropOldest_38 (by decide) (fun c3 => ?_) (fun c3 => ?_)
          · refine lv_iinc (v := (nI (i + 1))) (lv' := [(4, .int ((nI (i + 1)))), (5, .ref (en i)), (1, .ref (en o)), (3, .int (nI n)), (2, .ref sl), (0, .ref c0)]) hx hb dX1_dropOldest_60 hl (k := 1) rfl (nI_1 i) (by decide) rfl (fun ls hl => ?_)
            refine lv_goto (tgt := 13) hx hb dX1_dropOldest_63 (by decide) ?_
            exact ih (i + 1) (.ref (en o)) (by omega) (Or.inr ⟨o, (oldI_keep (elig_f2 c3)).trans ho, rfl⟩) H locs hH hS ls (lv_sub hl [0, 2, 3, 4, 5] rfl)
          · refine lv_aload_n hx hb dX1_dropOldest_41 rfl (lv_at hl 2 rfl) ?_
            refine lv_ifnull hx hb dX1_dropOldest_42 ?_
            refine lv_aload hx hb dX1_dropOldest_45 (lv_at hl 0 rfl) ?_
            refine gf_X1_42 hx hb hts hown hK hH (hE i hi) rfl dX1_dropOldest_47 ?_
            refine lv_aload_n hx hb dX1_dropOldest_50 rfl (lv_at hl 2 rfl) ?_
            refine gf_X1_42 hx hb hts hown hK hH (hE o hoi) rfl dX1_dropOldest_51 ?_
            refine lv_icmp_ge (tgt := 60) hx hb dX1_dropOldest_54 (by decide) (fun c4 => ?_) (fun c4 => ?_)
            · refine lv_iinc (v := (nI (i + 1))) (lv' := [(4, .int ((nI (i + 1)))), (5, .ref (en i)), (1, .ref (en o)), (3, .int (nI n)), (2, .ref sl), (0, .ref c0)]) hx hb dX1_dropOldest_60 hl (k := 1) rfl (nI_1 i) (by decide) rfl (fun ls hl => ?_)
              refine lv_goto (tgt := 13) hx hb dX1_dropOldest_63 (by decide) ?_
              exact ih (i + 1) (.ref (en o)) (by omega) (Or.inr ⟨o, oldI_old ho (Int32.not_lt.mpr c4), rfl⟩) H locs hH hS ls (lv_sub hl [0, 2, 3, 4, 5] rfl)
            · refine lv_aload hx hb dX1_dropOldest_57 (lv_at hl 0 rfl) ?_
              refine lv_astore_n (lv' := [(1, .ref (en i)), (5, .ref (en i)), (4, .int (nI i)), (3, .int (nI n)), (2, .ref sl), (0, .ref c0)]) hx hb dX1_dropOldest_59 rfl hl (by decide) rfl (fun ls hl => ?_)
              refine lv_iinc (v := (nI (i + 1))) (lv' := [(4, .int ((nI (i + 1)))), (1, .ref (en i)), (5, .ref (en i)), (3, .int (nI n)), (2, .ref sl), (0, .ref c0)]) hx hb dX1_dropOldest_60 hl (k := 2) rfl (nI_1 i) (by decide) rfl (fun ls hl => ?_)
              refine lv_goto (tgt := 13) hx hb dX1_dropOldest_63 (by decide) ?_
              exact ih (i + 1) (.ref (en i)) (by omega) (Or.inr ⟨i, oldI_new (elig_t (of_decide_eq_false (bI_0.mp c2)) c3) ho (Int32.not_le.mp c4), rfl⟩) H locs hH hS ls (lv_sub hl [0, 1, 3, 4, 5] rfl)
  refine lv_null hx hb dX1_dropOldest_0 ?_
  refine lv_astore_nN (lv' := [(1, .null), (0, .ref c0)]) hx hb dX1_dropOldest_1 rfl hl (by decide) rfl (fun ls hl => ?_)
  refine lv_aload_n hx hb dX1_dropOldest_2 rfl (lv_at hl 1 rfl) ?_
  refine gf_X1_29 hx hb hts hown hK hH hc rfl dX1_dropOldest_3 ?_
  refine lv_astore_n (lv' := [(2, .ref sl), (1, .null), (0, .ref c0)]) hx hb dX1_dropOldest_6 rfl hl (by decide) rfl (fun ls hl => ?_)
  refine lv_aload_n hx hb dX1_dropOldest_7 rfl (lv_at hl 0 rfl) ?_
  refine hm_alen (v := nI n) hx hb hK hH 3 hsl rfl rfl dX1_dropOldest_8 ?_
  refine lv_istore_n (lv' := [(3, .int (nI n)), (2, .ref sl), (1, .null), (0, .ref c0)]) hx hb dX1_dropOldest_9 rfl hl (by decide) rfl (fun ls hl => ?_)
  refine lv_iconst (v := 0) hx hb dX1_dropOldest_10 (by decide) ?_
  refine lv_istore (lv' := [(4, .int 0), (3, .int (nI n)), (2, .ref sl), (1, .null), (0, .ref c0)]) hx hb dX1_dropOldest_11 hl (by decide) rfl (fun ls hl => ?_)
  exact loop n 0 .null (by omega) (Or.inl ⟨rfl, rfl⟩) s.heap [] hH hS ls (lv_sub hl [0, 3, 1, 2, 4] rfl)
