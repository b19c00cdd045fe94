/-! the Cache: its cells, and its methods that leave it as it is -/
/-- the cache at c: its slots' array at sl, n entries at en 0 .. en (n - 1), which hold E; count, room, uses -/
def CA (Γ : Gm) (f : Hm) (c sl n : Nat) (en : Nat → Nat) (E : Nat → EV) (cn rm us : Int32) : Prop :=
  f c = some (eR 1 [.ref sl, .int cn, .int rm, .int us]) ∧ (∃ g : Nat → Option Nat, f sl = some (eN Γ n g) ∧ ∀ i, i < n → g i = some (en i)) ∧ (∀ i, i < n → f (en i) = some (ev (E i))) ∧ ∀ i j, i < n → j < n → en i = en j → i = j
/-- the first place where P holds, as a reference into en, or null -/
def fndP (P : Nat → Bool) (n : Nat) (en : Nat → Nat) (v : Option Value) : Prop := (v = some .null ∧ ∀ j, j < n → P j = false) ∨ ∃ i, i < n ∧ P i = true ∧ (∀ j, j < i → P j = false) ∧ v = some (.ref (en i))
theorem all_s {P : Nat → Prop} {i : Nat} (h : ∀ j, j < i → P j) (hi : P i) : ∀ j, j < i + 1 → P j := fun j hj => by
  by_cases q : j = i
  · rw [q]; exact hi
  · exact h j (by omega)
/-- how many places hold, as an int -/
def cntP (P : Nat → Bool) : Nat → Nat
  | 0 => 0
  | n + 1 => cntP P n + (if P n = true then 1 else 0)
theorem cntP_le (P : Nat → Bool) : ∀ n, cntP P n ≤ n
  | 0 => Nat.le_refl _
  | n + 1 => by have := cntP_le P n; unfold cntP; split <;> omega
/-- the oldest place of those below n that can go: not free, not pinned, used longest ago -/
def elig (x : EV) : Bool := !decide (x.2.2.1 = 0) && decide (x.2.2.2.2.2.2 = 0)
def oldI (E : Nat → EV) : Nat → Option Nat
  | 0 => none
  | n + 1 => match oldI E n with
    | none => if elig (E n) = true then some n else none
    | some o => if elig (E n) = true ∧ (E n).2.2.2.2.2.1 < (E o).2.2.2.2.2.1 then some n else some o
theorem oldI_lt {E : Nat → EV} : ∀ {n o : Nat}, oldI E n = some o → o < n
  | 0, o, h => by cases h
  | n + 1, o, h => by
    unfold oldI at h
    cases hq : oldI E n with
    | none =>
      rw [hq] at h
      dsimp only at h
      split at h
      · cases h; omega
      · cases h
    | some o' =>
      rw [hq] at h
      dsimp only at h
      have := oldI_lt hq
      split at h
      · cases h; omega
      · cases h; omega
set_option maxHeartbeats 4000000 in
set_option maxRecDepth 100000 in
/-- the entry for a state at a depth, or null -/
theorem c_X1_find (Γ : Gm) (l : Launch) (b : Int64) (z d : Int32) (c0 sl n : Nat) (en : Nat → Nat) (E : Nat → EV) (cn rm us : Int32) (f : Hm) (hC : CA Γ f c0 sl n en E cn rm us) (hn : n ≤ 64) : Ct Γ l yX1_find cX1_find 9 (some (.object "TileWarden$Entry")) 2 0 0 [.ref c0, .long b, .int z, .int d] f (fun v f' => fndP (fun j => isFor (E j) b z d) n en v ∧ f' = f) := by
  refine Ct_of (by decide +kernel) (Nat.le_of_ble_eq_true rfl) ?_
  intro p e s m args below meth c hx hb hr hml hown hin hlocks hts hH hO hK ls hl
  have hl : lv_has ls 9 [(0, .ref c0), (1, .long b), (3, .int z), (4, .int d)] := hl
  have hS : va_S (gA Γ) s.heap s.heap [] := va_S.rf
  obtain ⟨hc, ⟨g, hsl, hg⟩, hE, hinj⟩ := id hC
  have loop : ∀ (k_ i : Nat), i + k_ = n → (∀ j, j < i → isFor (E j) b z d = false) → ∀ (H : Heap) (locs : List Loc), hm_H Γ f H → va_S (gA Γ) s.heap H locs → ∀ ls : Array Slot, lv_has ls 9 [(7, .int (nI i)), (6, .int (nI n)), (5, .ref sl), (0, .ref c0), (1, .long b), (3, .int z), (4, .int d)] → W p l e (rmk 2 0 0) s m args below meth c H locs 0 0 (MQ below (hm_Q Γ (fun v f' => fndP (fun j => isFor (E j) b z d) n en v ∧ f' = f)) args s 0 0 (gA Γ)) (F0 m 14 ls []) := by
    intro k_
    induction k_ with
    | zero =>
      intro i hin_ hinv H locs hH hS ls hl
      have hi : i = n := by omega
      subst hi
      refine lv_iload hx hb dX1_find_14 (lv_at hl 0 rfl) ?_
      refine lv_iload hx hb dX1_find_16 (lv_at hl 1 rfl) ?_
      refine lv_icmp_ge (tgt := 49) hx hb dX1_find_18 (by decide) (fun _ => ?_) (fun c1 => absurd (nI_le (Nat.le_refl _) (by omega)) c1)
      refine lv_null hx hb dX1_find_49 ?_
      exact hm_aret hx hb hr (Or.inl ⟨_, rfl⟩) (Or.inl rfl) hlocks hS hH (⟨Or.inl ⟨rfl, hinv⟩, rfl⟩) (Nat.le_of_ble_eq_true rfl) (Nat.le_of_ble_eq_true rfl) dX1_find_50
    | succ k_ ih =>
      intro i hin_ hinv H locs hH hS ls hl
      have hi : i < n := by omega
      refine lv_iload hx hb dX1_find_14 (lv_at hl 0 rfl) ?_
      refine lv_iload hx hb dX1_find_16 (lv_at hl 1 rfl) ?_
      refine lv_icmp_ge (tgt := 49) hx hb dX1_find_18 (by decide) (fun c1 => absurd c1 (nI_ge hi (by omega))) (fun _ => ?_)
      refine lv_aload hx hb dX1_find_21 (lv_at hl 2 rfl) ?_
      refine lv_iload hx hb dX1_find_23 (lv_at hl 0 rfl) ?_
      refine hm_naldE hx hb hK hH hsl (vp_in_nI hi (by omega)) dX1_find_25 ?_
      refine W.eq (g2 := F0 m 26 ls (.ref (en i) :: [])) (congrArg (fun x_ => F0 m 26 ls (x_ :: [])) (by rw [nI_clamp (by omega), hg i hi]; rfl)) ?_
      refine lv_astore (lv' := [(8, .ref (en i)), (7, .int (nI i)), (6, .int (nI n)), (5, .ref sl), (0, .ref c0), (1, .long b), (3, .int z), (4, .int d)]) hx hb dX1_find_26 hl (by decide) rfl (fun ls hl => ?_)
      refine lv_aload hx hb dX1_find_28 (lv_at hl 0 rfl) ?_
      refine lv_lload_n hx hb dX1_find_30 rfl (lv_at hl 5 rfl) ?_
      refine lv_iload_n hx hb dX1_find_31 rfl (lv_at hl 6 rfl) ?_
      refine lv_iload hx hb dX1_find_32 (lv_at hl 7 rfl) ?_
      refine hm_callV (rest := []) (k := 1) q3_187 q3_188 q1_7 q3_190 q3_189 rfl nm_X2_isFor rfl hx hb hml hown hts hK hO hS hH hl.1 (hE i hi) (c_X2_isFor Γ l (en i) (E i) b z d _ (hE i hi)) ⟨Nat.le_of_ble_eq_true rfl, Nat.le_of_ble_eq_true rfl⟩ ⟨Nat.le_of_ble_eq_true rfl, Nat.le_of_ble_eq_true rfl⟩ rfl (Nat.le_of_ble_eq_true rfl) dX1_find_34 (fun v_ f_ H locs hp_ hH hS => ?_)
      obtain ⟨rfl, ef_⟩ := hp_
      rw [ef_] at hH
      clear ef_
      refine W.eq (g2 := F0 m 37 ls [.int (bI (isFor (E i) b z d))]) rfl ?_
      refine lv_if_eq (tgt := 43) hx hb dX1_find_37 (by decide) (fun c2 => ?_) (fun c2 => ?_)
      · refine lv_iinc (v := (nI (i + 1))) (lv' := [(7, .int ((nI (i + 1)))), (8, .ref (en i)), (6, .int (nI n)), (5, .ref sl), (0, .ref c0), (1, .long b), (3, .int z), (4, .int d)]) hx hb dX1_find_43 hl (k := 1) rfl (nI_1 i) (by decide) rfl (fun ls hl => ?_)
        refine lv_goto (tgt := 14) hx hb dX1_find_46 (by decide) ?_
        exact ih (i + 1) (by omega) (all_s hinv (bI_0.mp c2)) H locs hH hS ls (lv_sub hl [0, 2, 3, 4, 5, 6, 7] rfl)
      · refine lv_aload hx hb dX1_find_40 (lv_at hl 0 rfl) ?_
        exact hm_aret hx hb hr (Or.inl ⟨_, rfl⟩) (Or.inr ⟨_, rfl⟩) hlocks hS hH (⟨Or.inr ⟨i, hi, bI_n.mp c2, hinv, rfl⟩, rfl⟩) (Nat.le_of_ble_eq_true rfl) (Nat.le_of_ble_eq_true rfl) dX1_find_42
  refine lv_aload_n hx hb dX1_find_0 rfl (lv_at hl 0 rfl) ?_
  refine gf_X1_29 hx hb hts hown hK hH hc rfl dX1_find_1 ?_
  refine lv_astore (lv' := [(5, .ref sl), (0, .ref c0), (1, .long b), (3, .int z), (4, .int d)]) hx hb dX1_find_4 hl (by decide) rfl (fun ls hl => ?_)
  refine lv_aload hx hb dX1_find_6 (lv_at hl 0 rfl) ?_
  refine hm_alen (v := nI n) hx hb hK hH 3 hsl rfl rfl dX1_find_8 ?_
  refine lv_istore (lv' := [(6, .int (nI n)), (5, .ref sl), (0, .ref c0), (1, .long b), (3, .int z), (4, .int d)]) hx hb dX1_find_9 hl (by decide) rfl (fun ls hl => ?_)
  refine lv_iconst (v := 0) hx hb dX1_find_11 (by decide) ?_
  refine lv_istore (lv' := [(7, .int 0), (6, .int (nI n)), (5, .ref sl), (0, .ref c0), (1, .long b), (3, .int z), (4, .int d)]) hx hb dX1_find_12 hl (by decide) rfl (fun ls hl => ?_)
  exact loop n 0 (by omega) (fun _ h => absurd h (Nat.not_lt_zero _)) s.heap [] hH hS ls (lv_sub hl [0, 1, 2, 3, 4, 5, 6] rfl)
set_option maxHeartbeats 4000000 in
set_option maxRecDepth 100000 in
/-- the first free slot, or null -/
theorem c_X1_findFree (Γ : Gm) (l : Launch)  (c0 sl n : Nat) (en : Nat → Nat) (E : Nat → EV) (cn rm us : Int32) (f : Hm) (hC : CA Γ f c0 sl n en E cn rm us) (hn : n ≤ 64) : Ct Γ l yX1_findFree cX1_findFree 5 (some (.object "TileWarden$Entry")) 2 0 0 [.ref c0] f (fun v f' => fndP (fun j => decide ((E j).2.2.1 = 0)) n en v ∧ f' = f) := by
  refine Ct_of (by decide +kernel) (Nat.le_of_ble_eq_true rfl) ?_
  intro p e s m args below meth c hx hb hr hml hown hin hlocks hts hH hO hK ls hl
  have hl : lv_has ls 5 [(0, .ref c0)] := hl
  have hS : va_S (gA Γ) s.heap s.heap [] := va_S.rf
  obtain ⟨hc, ⟨g, hsl, hg⟩, hE, hinj⟩ := id hC
  have loop : ∀ (k_ i : Nat), i + k_ = n → (∀ j, j < i → decide ((E j).2.2.1 = 0) = false) → ∀ (H : Heap) (locs : List Loc), hm_H Γ f H → va_S (gA Γ) s.heap H locs → ∀ ls : Array Slot, lv_has ls 5 [(3, .int (nI i)), (2, .int (nI n)), (1, .ref sl), (0, .ref c0)] → W p l e (rmk 2 0 0) s m args below meth c H locs 0 0 (MQ below (hm_Q Γ (fun v f' => fndP (fun j => decide ((E j).2.2.1 = 0)) n en v ∧ f' = f)) args s 0 0 (gA Γ)) (F0 m 10 ls []) := by
    intro k_
    induction k_ with
    | zero =>
      intro i hin_ hinv H locs hH hS ls hl
      have hi : i = n := by omega
      subst hi
      refine lv_iload_n hx hb dX1_findFree_10 rfl (lv_at hl 0 rfl) ?_
      refine lv_iload_n hx hb dX1_findFree_11 rfl (lv_at hl 1 rfl) ?_
      refine lv_icmp_ge (tgt := 37) hx hb dX1_findFree_12 (by decide) (fun _ => ?_) (fun c1 => absurd (nI_le (Nat.le_refl _) (by omega)) c1)
      refine lv_null hx hb dX1_findFree_37 ?_
      exact hm_aret hx hb hr (Or.inl ⟨_, rfl⟩) (Or.inl rfl) hlocks hS hH (⟨Or.inl ⟨rfl, hinv⟩, rfl⟩) (Nat.le_of_ble_eq_true rfl) (Nat.le_of_ble_eq_true rfl) dX1_findFree_38
    | succ k_ ih =>
      intro i hin_ hinv H locs hH hS ls hl
      have hi : i < n := by omega
      refine lv_iload_n hx hb dX1_findFree_10 rfl (lv_at hl 0 rfl) ?_
      refine lv_iload_n hx hb dX1_findFree_11 rfl (lv_at hl 1 rfl) ?_
      refine lv_icmp_ge (tgt := 37) hx hb dX1_findFree_12 (by decide) (fun c1 => absurd c1 (nI_ge hi (by omega))) (fun _ => ?_)
      refine lv_aload_n hx hb dX1_findFree_15 rfl (lv_at hl 2 rfl) ?_
      refine lv_iload_n hx hb dX1_findFree_16 rfl (lv_at hl 0 rfl) ?_
      refine hm_naldE hx hb hK hH hsl (vp_in_nI hi (by omega)) dX1_findFree_17 ?_
      refine W.eq (g2 := F0 m 18 ls (.ref (en i) :: [])) (congrArg (fun x_ => F0 m 18 ls (x_ :: [])) (by rw [nI_clamp (by omega), hg i hi]; rfl)) ?_
      refine lv_astore (lv' := [(4, .ref (en i)), (3, .int (nI i)), (2, .int (nI n)), (1, .ref sl), (0, .ref c0)]) hx hb dX1_findFree_18 hl (by decide) rfl (fun ls hl => ?_)
      refine lv_aload hx hb dX1_findFree_20 (lv_at hl 0 rfl) ?_
      refine hm_callV (rest := []) (k := 1) q3_207 q3_208 q1_7 q3_210 q3_209 rfl nm_X2_isFree rfl hx hb hml hown hts hK hO hS hH hl.1 (hE i hi) (c_X2_isFree Γ l (en i) (E i) _ (hE i hi)) ⟨Nat.le_of_ble_eq_true rfl, Nat.le_of_ble_eq_true rfl⟩ ⟨Nat.le_of_ble_eq_true rfl, Nat.le_of_ble_eq_true rfl⟩ rfl (Nat.le_of_ble_eq_true rfl) dX1_findFree_22 (fun v_ f_ H locs hp_ hH hS => ?_)
      obtain ⟨rfl, ef_⟩ := hp_
      rw [ef_] at hH
      clear ef_
      refine W.eq (g2 := F0 m 25 ls [.int (bI (decide ((E i).2.2.1 = 0)))]) rfl ?_
      refine lv_if_eq (tgt := 31) hx hb dX1_findFree_25 (by decide) (fun c2 => ?_) (fun c2 => ?_)
      · refine lv_iinc (v := (nI (i + 1))) (lv' := [(3, .int ((nI (i + 1)))), (4, .ref (en i)), (2, .int (nI n)), (1, .ref sl), (0, .ref c0)]) hx hb dX1_findFree_31 hl (k := 1) rfl (nI_1 i) (by decide) rfl (fun ls hl => ?_)
        refine lv_goto (tgt := 10) hx hb dX1_findFree_34 (by decide) ?_
        exact ih (i + 1) (by omega) (all_s hinv (bI_0.mp c2)) H locs hH hS ls (lv_sub hl [0, 2, 3, 4] rfl)
      · refine lv_aload hx hb dX1_findFree_28 (lv_at hl 0 rfl) ?_
        exact hm_aret hx hb hr (Or.inl ⟨_, rfl⟩) (Or.inr ⟨_, rfl⟩) hlocks hS hH (⟨Or.inr ⟨i, hi, bI_n.mp c2, hinv, rfl⟩, rfl⟩) (Nat.le_of_ble_eq_true rfl) (Nat.le_of_ble_eq_true rfl) dX1_findFree_30
  refine lv_aload_n hx hb dX1_findFree_0 rfl (lv_at hl 0 rfl) ?_
  refine gf_X1_29 hx hb hts hown hK hH hc rfl dX1_findFree_1 ?_
  refine lv_astore_n (lv' := [(1, .ref sl), (0, .ref c0)]) hx hb dX1_findFree_4 rfl hl (by decide) rfl (fun ls hl => ?_)
  refine lv_aload_n hx hb dX1_findFree_5 rfl (lv_at hl 0 rfl) ?_
  refine hm_alen (v := nI n) hx hb hK hH 3 hsl rfl rfl dX1_findFree_6 ?_
  refine lv_istore_n (lv' := [(2, .int (nI n)), (1, .ref sl), (0, .ref c0)]) hx hb dX1_findFree_7 rfl hl (by decide) rfl (fun ls hl => ?_)
  refine lv_iconst (v := 0) hx hb dX1_findFree_8 (by decide) ?_
  refine lv_istore_n (lv' := [(3, .int 0), (2, .int (nI n)), (1, .ref sl), (0, .ref c0)]) hx hb dX1_findFree_9 rfl hl (by decide) rfl (fun ls hl => ?_)
  exact loop n 0 (by omega) (fun _ h => absurd h (Nat.not_lt_zero _)) s.heap [] hH hS ls (lv_sub hl [0, 1, 2, 3] rfl)
set_option maxHeartbeats 4000000 in
set_option maxRecDepth 100000 in
/-- how many are pinned -/
theorem c_X1_countPinned (Γ : Gm) (l : Launch)  (c0 sl n : Nat) (en : Nat → Nat) (E : Nat → EV) (cn rm us : Int32) (f : Hm) (hC : CA Γ f c0 sl n en E cn rm us) (hn : n ≤ 64) : Ct Γ l yX1_countPinned cX1_countPinned 6 (some .int) 1 0 0 [.ref c0] f (pI (nI (cntP (fun j => decide ((E j).2.2.2.2.2.2 ≠ 0)) n)) f) := by
  refine Ct_of (by decide +kernel) (Nat.le_of_ble_eq_true rfl) ?_
  intro p e s m args below meth c hx hb hr hml hown hin hlocks hts hH hO hK ls hl
  have hl : lv_has ls 6 [(0, .ref c0)] := hl
  have hS : va_S (gA Γ) s.heap s.heap [] := va_S.rf
  obtain ⟨hc, ⟨g, hsl, hg⟩, hE, hinj⟩ := id hC
  have loop : ∀ (k_ i : Nat), i + k_ = n → ∀ (H : Heap) (locs : List Loc), hm_H Γ f H → va_S (gA Γ) s.heap H locs → ∀ ls : Array Slot, lv_has ls 6 [(4, .int (nI i)), (1, .int (nI (cntP (fun j => decide ((E j).2.2.2.2.2.2 ≠ 0)) i))), (3, .int (nI n)), (2, .ref sl), (0, .ref c0)] → W p l e (rmk 1 0 0) s m args below meth c H locs 0 0 (MQ below (hm_Q Γ (pI (nI (cntP (fun j => decide ((E j).2.2.2.2.2.2 ≠ 0)) n)) f)) args s 0 0 (gA Γ)) (F0 m 13 ls []) := by
    intro k_
    induction k_ with
    | zero =>
      intro i hin_ H locs hH hS ls hl
      have hi : i = n := by omega
      subst hi
      refine lv_iload hx hb dX1_countPinned_13 (lv_at hl 0 rfl) ?_
      refine lv_iload_n hx hb dX1_countPinned_15 rfl (lv_at hl 2 rfl) ?_
      refine lv_icmp_ge (tgt := 47) hx hb dX1_countPinned_16 (by decide) (fun _ => ?_) (fun c1 => absurd (nI_le (Nat.le_refl _) (by omega)) c1)
      refine lv_iload_n hx hb dX1_countPinned_47 rfl (lv_at hl 1 rfl) ?_
      exact hm_iret hx hb hr hlocks hS hH (pI_of (rfl)) (Nat.le_of_ble_eq_true rfl) (Nat.le_of_ble_eq_true rfl) dX1_countPinned_48
    | succ k_ ih =>
      intro i hin_ H locs hH hS ls hl
      have hi : i < n := by omega
      refine lv_iload hx hb dX1_countPinned_13 (lv_at hl 0 rfl) ?_
      refine lv_iload_n hx hb dX1_countPinned_15 rfl (lv_at hl 2 rfl) ?_
      refine lv_icmp_ge (tgt := 47) hx hb dX1_countPinned_16 (by decide) (fun c1 => absurd c1 (nI_ge hi (by omega))) (fun _ => ?_)
      refine lv_aload_n hx hb dX1_countPinned_19 rfl (lv_at hl 3 rfl) ?_
      refine lv_iload hx hb dX1_countPinned_20 (lv_at hl 0 rfl) ?_
      refine hm_naldE hx hb hK hH hsl (vp_in_nI hi (by omega)) dX1_countPinned_22 ?_
      refine W.eq (g2 := F0 m 23 ls (.ref (en i) :: [])) (congrArg (fun x_ => F0 m 23 ls (x_ :: [])) (by rw [nI_clamp (by omega), hg i hi]; rfl)) ?_
      refine lv_astore (lv' := [(5, .ref (en i)), (4, .int (nI i)), (1, .int (nI (cntP (fun j => decide ((E j).2.2.2.2.2.2 ≠ 0)) i))), (3, .int (nI n)), (2, .ref sl), (0, .ref c0)]) hx hb dX1_countPinned_23 hl (by decide) rfl (fun ls hl => ?_)
      refine lv_iload_n hx hb dX1_countPinned_25 rfl (lv_at hl 2 rfl) ?_
      refine lv_aload hx hb dX1_countPinned_26 (lv_at hl 0 rfl) ?_
      refine gf_X1_71 hx hb hts hown hK hH (hE i hi) rfl dX1_countPinned_28 ?_
      refine lv_if_eq (tgt := 38) hx hb dX1_countPinned_31 (by decide) (fun c2 => ?_) (fun c2 => ?_)
      · refine lv_iconst (v := 0) hx hb dX1_countPinned_38 (by decide) ?_
        refine lv_iadd hx hb dX1_countPinned_39 ?_
        refine lv_topi (fun v3 ev3 => ?_)
        replace ev3 : v3 = nI (cntP (fun j => decide ((E j).2.2.2.2.2.2 ≠ 0)) i + 0) := ev3.trans (nI_add _ 0)
        subst ev3
        refine lv_istore_n (lv' := [(1, .int (nI (cntP (fun j => decide ((E j).2.2.2.2.2.2 ≠ 0)) i + 0))), (5, .ref (en i)), (4, .int (nI i)), (3, .int (nI n)), (2, .ref sl), (0, .ref c0)]) hx hb dX1_countPinned_40 rfl hl (by decide) rfl (fun ls hl => ?_)
        refine lv_iinc (v := (nI (i + 1))) (lv' := [(4, .int ((nI (i + 1)))), (1, .int (nI (cntP (fun j => decide ((E j).2.2.2.2.2.2 ≠ 0)) i + 0))), (5, .ref (en i)), (3, .int (nI n)), (2, .ref sl), (0, .ref c0)]) hx hb dX1_countPinned_41 hl (k := 2) rfl (nI_1 i) (by decide) rfl (fun ls hl => ?_)
        refine lv_goto (tgt := 13) hx hb dX1_countPinned_44 (by decide) ?_
        have hP : (fun j => decide ((E j).2.2.2.2.2.2 ≠ 0)) i = false := decide_eq_false (fun q => q c2)
        have hs : cntP (fun j => decide ((E j).2.2.2.2.2.2 ≠ 0)) (i + 1) = cntP (fun j => decide ((E j).2.2.2.2.2.2 ≠ 0)) i + 0 := by show _ + _ = _; rw [hP]; rfl
        rw [← hs] at hl
        exact ih (i + 1) (by omega) H locs hH hS ls (lv_sub hl [0, 1, 3, 4, 5] rfl)
      · refine lv_iconst (v := 1) hx hb dX1_countPinned_34 (by decide) ?_
        refine lv_goto (tgt := 39) hx hb dX1_countPinned_35 (by decide) ?_
        refine lv_iadd hx hb dX1_countPinned_39 ?_
        refine lv_topi (fun v4 ev4 => ?_)
        replace ev4 : v4 = nI (cntP (fun j => decide ((E j).2.2.2.2.2.2 ≠ 0)) i + 1) := ev4.trans (nI_add _ 1)
        subst ev4
        refine lv_istore_n (lv' := [(1, .int (nI (cntP (fun j => decide ((E j).2.2.2.2.2.2 ≠ 0)) i + 1))), (5, .ref (en i)), (4, .int (nI i)), (3, .int (nI n)), (2, .ref sl), (0, .ref c0)]) hx hb dX1_countPinned_40 rfl hl (by decide) rfl (fun ls hl => ?_)
        refine lv_iinc (v := (nI (i + 1))) (lv' := [(4, .int ((nI (i + 1)))), (1, .int (nI (cntP (fun j => decide ((E j).2.2.2.2.2.2 ≠ 0)) i + 1))), (5, .ref (en i)), (3, .int (nI n)), (2, .ref sl), (0, .ref c0)]) hx hb dX1_countPinned_41 hl (k := 2) rfl (nI_1 i) (by decide) rfl (fun ls hl => ?_)
        refine lv_goto (tgt := 13) hx hb dX1_countPinned_44 (by decide) ?_
        have hP : (fun j => decide ((E j).2.2.2.2.2.2 ≠ 0)) i = true := decide_eq_true (fun q => c2 q)
        have hs : cntP (fun j => decide ((E j).2.2.2.2.2.2 ≠ 0)) (i + 1) = cntP (fun j => decide ((E j).2.2.2.2.2.2 ≠ 0)) i + 1 := by show _ + _ = _; rw [hP]; rfl
        rw [← hs] at hl
        exact ih (i + 1) (by omega) H locs hH hS ls (lv_sub hl [0, 1, 3, 4, 5] rfl)
  refine lv_iconst (v := 0) hx hb dX1_countPinned_0 (by decide) ?_
  refine lv_istore_n (lv' := [(1, .int 0), (0, .ref c0)]) hx hb dX1_countPinned_1 rfl hl (by decide) rfl (fun ls hl => ?_)
  refine lv_aload_n hx hb dX1_countPinned_2 rfl (lv_at hl 1 rfl) ?_
  refine gf_X1_29 hx hb hts hown hK hH hc rfl dX1_countPinned_3 ?_
  refine lv_astore_n (lv' := [(2, .ref sl), (1, .int 0), (0, .ref c0)]) hx hb dX1_countPinned_6 rfl hl (by decide) rfl (fun ls hl => ?_)
  refine lv_aload_n hx hb dX1_countPinned_7 rfl (lv_at hl 0 rfl) ?_
  refine hm_alen (v := nI n) hx hb hK hH 3 hsl rfl rfl dX1_countPinned_8 ?_
  refine lv_istore_n (lv' := [(3, .int (nI n)), (2, .ref sl), (1, .int 0), (0, .ref c0)]) hx hb dX1_countPinned_9 rfl hl (by decide) rfl (fun ls hl => ?_)
  refine lv_iconst (v := 0) hx hb dX1_countPinned_10 (by decide) ?_
  refine lv_istore (lv' := [(4, .int 0), (3, .int (nI n)), (2, .ref sl), (1, .int 0), (0, .ref c0)]) hx hb dX1_countPinned_11 hl (by decide) rfl (fun ls hl => ?_)
  exact loop n 0 (by omega) s.heap [] hH hS ls (lv_sub hl [0, 3, 1, 2, 4] rfl)
set_option maxHeartbeats 4000000 in
set_option maxRecDepth 100000 in
/-- how many have this pin -/
theorem c_X1_countPins (Γ : Gm) (l : Launch) (bit : Int32) (c0 sl n : Nat) (en : Nat → Nat) (E : Nat → EV) (cn rm us : Int32) (f : Hm) (hC : CA Γ f c0 sl n en E cn rm us) (hn : n ≤ 64) : Ct Γ l yX1_countPins cX1_countPins 7 (some .int) 1 0 0 [.ref c0, .int bit] f (pI (nI (cntP (fun j => decide ((E j).2.2.2.2.2.2 &&& bit ≠ 0)) n)) f) := by
  refine Ct_of (by decide +kernel) (Nat.le_of_ble_eq_true rfl) ?_
  intro p e s m args below meth c hx hb hr hml hown hin hlocks hts hH hO hK ls hl
  have hl : lv_has ls 7 [(0, .ref c0), (1, .int bit)] := hl
  have hS : va_S (gA Γ) s.heap s.heap [] := va_S.rf
  obtain ⟨hc, ⟨g, hsl, hg⟩, hE, hinj⟩ := id hC
  have loop : ∀ (k_ i : Nat), i + k_ = n → ∀ (H : Heap) (locs : List Loc), hm_H Γ f H → va_S (gA Γ) s.heap H locs → ∀ ls : Array Slot, lv_has ls 7 [(5, .int (nI i)), (2, .int (nI (cntP (fun j => decide ((E j).2.2.2.2.2.2 &&& bit ≠ 0)) i))), (4, .int (nI n)), (3, .ref sl), (0, .ref c0), (1, .int bit)] → W p l e (rmk 1 0 0) s m args below meth c H locs 0 0 (MQ below (hm_Q Γ (pI (nI (cntP (fun j => decide ((E j).2.2.2.2.2.2 &&& bit ≠ 0)) n)) f)) args s 0 0 (gA Γ)) (F0 m 14 ls []) := by
    intro k_
    induction k_ with
    | zero =>
      intro i hin_ H locs hH hS ls hl
      have hi : i = n := by omega
      subst hi
      refine lv_iload hx hb dX1_countPins_14 (lv_at hl 0 rfl) ?_
      refine lv_iload hx hb dX1_countPins_16 (lv_at hl 2 rfl) ?_
      refine lv_icmp_ge (tgt := 51) hx hb dX1_countPins_18 (by decide) (fun _ => ?_) (fun c1 => absurd (nI_le (Nat.le_refl _) (by omega)) c1)
      refine lv_iload_n hx hb dX1_countPins_51 rfl (lv_at hl 1 rfl) ?_
      exact hm_iret hx hb hr hlocks hS hH (pI_of (rfl)) (Nat.le_of_ble_eq_true rfl) (Nat.le_of_ble_eq_true rfl) dX1_countPins_52
    | succ k_ ih =>
      intro i hin_ H locs hH hS ls hl
      have hi : i < n := by omega
      refine lv_iload hx hb dX1_countPins_14 (lv_at hl 0 rfl) ?_
      refine lv_iload hx hb dX1_countPins_16 (lv_at hl 2 rfl) ?_
      refine lv_icmp_ge (tgt := 51) hx hb dX1_countPins_18 (by decide) (fun c1 => absurd c1 (nI_ge hi (by omega))) (fun _ => ?_)
      refine lv_aload_n hx hb dX1_countPins_21 rfl (lv_at hl 3 rfl) ?_
      refine lv_iload hx hb dX1_countPins_22 (lv_at hl 0 rfl) ?_
      refine hm_naldE hx hb hK hH hsl (vp_in_nI hi (by omega)) dX1_countPins_24 ?_
      refine W.eq (g2 := F0 m 25 ls (.ref (en i) :: [])) (congrArg (fun x_ => F0 m 25 ls (x_ :: [])) (by rw [nI_clamp (by omega), hg i hi]; rfl)) ?_
      refine lv_astore (lv' := [(6, .ref (en i)), (5, .int (nI i)), (2, .int (nI (cntP (fun j => decide ((E j).2.2.2.2.2.2 &&& bit ≠ 0)) i))), (4, .int (nI n)), (3, .ref sl), (0, .ref c0), (1, .int bit)]) hx hb dX1_countPins_25 hl (by decide) rfl (fun ls hl => ?_)
      refine lv_iload_n hx hb dX1_countPins_27 rfl (lv_at hl 2 rfl) ?_
      refine lv_aload hx hb dX1_countPins_28 (lv_at hl 0 rfl) ?_
      refine gf_X1_71 hx hb hts hown hK hH (hE i hi) rfl dX1_countPins_30 ?_
      refine lv_iload_n hx hb dX1_countPins_33 rfl (lv_at hl 6 rfl) ?_
      refine lv_iand hx hb dX1_countPins_34 ?_
      refine lv_topi (fun v2 ev2 => ?_)
      refine lv_if_eq (tgt := 42) hx hb dX1_countPins_35 (by decide) (fun c3 => ?_) (fun c3 => ?_)
      · refine lv_iconst (v := 0) hx hb dX1_countPins_42 (by decide) ?_
        refine lv_iadd hx hb dX1_countPins_43 ?_
        refine lv_topi (fun v4 ev4 => ?_)
        replace ev4 : v4 = nI (cntP (fun j => decide ((E j).2.2.2.2.2.2 &&& bit ≠ 0)) i + 0) := ev4.trans (nI_add _ 0)
        subst ev4
        refine lv_istore_n (lv' := [(2, .int (nI (cntP (fun j => decide ((E j).2.2.2.2.2.2 &&& bit ≠ 0)) i + 0))), (6, .ref (en i)), (5, .int (nI i)), (4, .int (nI n)), (3, .ref sl), (0, .ref c0), (1, .int bit)]) hx hb dX1_countPins_44 rfl hl (by decide) rfl (fun ls hl => ?_)
        refine lv_iinc (v := (nI (i + 1))) (lv' := [(5, .int ((nI (i + 1)))), (2, .int (nI (cntP (fun j => decide ((E j).2.2.2.2.2.2 &&& bit ≠ 0)) i + 0))), (6, .ref (en i)), (4, .int (nI n)), (3, .ref sl), (0, .ref c0), (1, .int bit)]) hx hb dX1_countPins_45 hl (k := 2) rfl (nI_1 i) (by decide) rfl (fun ls hl => ?_)
        refine lv_goto (tgt := 14) hx hb dX1_countPins_48 (by decide) ?_
        subst ev2
        have hP : (fun j => decide ((E j).2.2.2.2.2.2 &&& bit ≠ 0)) i = false := decide_eq_false (fun q => q c3)
        have hs : cntP (fun j => decide ((E j).2.2.2.2.2.2 &&& bit ≠ 0)) (i + 1) = cntP (fun j => decide ((E j).2.2.2.2.2.2 &&& bit ≠ 0)) i + 0 := by show _ + _ = _; rw [hP]; rfl
        rw [← hs] at hl
        exact ih (i + 1) (by omega) H locs hH hS ls (lv_sub hl [0, 1, 3, 4, 5, 6] rfl)
      · refine lv_iconst (v := 1) hx hb dX1_countPins_38 (by decide) ?_
        refine lv_goto (tgt := 43) hx hb dX1_countPins_39 (by decide) ?_
        refine lv_iadd hx hb dX1_countPins_43 ?_
        refine lv_topi (fun v5 ev5 => ?_)
        replace ev5 : v5 = nI (cntP (fun j => decide ((E j).2.2.2.2.2.2 &&& bit ≠ 0)) i + 1) := ev5.trans (nI_add _ 1)
        subst ev5
        refine lv_istore_n (lv' := [(2, .int (nI (cntP (fun j => decide ((E j).2.2.2.2.2.2 &&& bit ≠ 0)) i + 1))), (6, .ref (en i)), (5, .int (nI i)), (4, .int (nI n)), (3, .ref sl), (0, .ref c0), (1, .int bit)]) hx hb dX1_countPins_44 rfl hl (by decide) rfl (fun ls hl => ?_)
        refine lv_iinc (v := (nI (i + 1))) (lv' := [(5, .int ((nI (i + 1)))), (2, .int (nI (cntP (fun j => decide ((E j).2.2.2.2.2.2 &&& bit ≠ 0)) i + 1))), (6, .ref (en i)), (4, .int (nI n)), (3, .ref sl), (0, .ref c0), (1, .int bit)]) hx hb dX1_countPins_45 hl (k := 2) rfl (nI_1 i) (by decide) rfl (fun ls hl => ?_)
        refine lv_goto (tgt := 14) hx hb dX1_countPins_48 (by decide) ?_
        subst ev2
        have hP : (fun j => decide ((E j).2.2.2.2.2.2 &&& bit ≠ 0)) i = true := decide_eq_true (fun q => c3 q)
        have hs : cntP (fun j => decide ((E j).2.2.2.2.2.2 &&& bit ≠ 0)) (i + 1) = cntP (fun j => decide ((E j).2.2.2.2.2.2 &&& bit ≠ 0)) i + 1 := by show _ + _ = _; rw [hP]; rfl
        rw [← hs] at hl
        exact ih (i + 1) (by omega) H locs hH hS ls (lv_sub hl [0, 1, 3, 4, 5, 6] rfl)
  refine lv_iconst (v := 0) hx hb dX1_countPins_0 (by decide) ?_
  refine lv_istore_n (lv' := [(2, .int 0), (0, .ref c0), (1, .int bit)]) hx hb dX1_countPins_1 rfl hl (by decide) rfl (fun ls hl => ?_)
  refine lv_aload_n hx hb dX1_countPins_2 rfl (lv_at hl 1 rfl) ?_
  refine gf_X1_29 hx hb hts hown hK hH hc rfl dX1_countPins_3 ?_
  refine lv_astore_n (lv' := [(3, .ref sl), (2, .int 0), (0, .ref c0), (1, .int bit)]) hx hb dX1_countPins_6 rfl hl (by decide) rfl (fun ls hl => ?_)
  refine lv_aload_n hx hb dX1_countPins_7 rfl (lv_at hl 0 rfl) ?_
  refine hm_alen (v := nI n) hx hb hK hH 3 hsl rfl rfl dX1_countPins_8 ?_
  refine lv_istore (lv' := [(4, .int (nI n)), (3, .ref sl), (2, .int 0), (0, .ref c0), (1, .int bit)]) hx hb dX1_countPins_9 hl (by decide) rfl (fun ls hl => ?_)
  refine lv_iconst (v := 0) hx hb dX1_countPins_11 (by decide) ?_
  refine lv_istore (lv' := [(5, .int 0), (4, .int (nI n)), (3, .ref sl), (2, .int 0), (0, .ref c0), (1, .int bit)]) hx hb dX1_countPins_12 hl (by decide) rfl (fun ls hl => ?_)
  exact loop n 0 (by omega) s.heap [] hH hS ls (lv_sub hl [0, 3, 1, 2, 4, 5] rfl)
