/-! the model: can, over, refusals; its cache: find, oldest, drop, keep -/
def fndI (P : Nat → Bool) (n : Nat) (v : Option Value) : Prop := (v = some (.int (-1)) ∧ ∀ j, j < n → P j = false) ∨ ∃ i, i < n ∧ P i = true ∧ (∀ j, j < i → P j = false) ∧ v = some (.int (nI i))
def oldM (K : Nat → EV) : Nat → Option Nat
  | 0 => none
  | n + 1 => match oldM K n with
    | none => if (K n).2.2.2.2.2.2 = 0 then some n else none
    | some o => if (K n).2.2.2.2.2.2 = 0 ∧ (K n).2.2.2.2.2.1 < (K o).2.2.2.2.2.1 then some n else some o
theorem oldM_lt {K : Nat → EV} : ∀ {n o : Nat}, oldM K n = some o → o < n
  | 0, o, h => by cases h
  | n + 1, o, h => by
    unfold oldM at h
    cases hq : oldM K n with
    | none =>
      rw [hq] at h
      dsimp only at h
      split at h
      · cases h; omega
      · cases h
    | some o' =>
      rw [hq] at h
      dsimp only at h
      have := oldM_lt hq
      split at h
      · cases h; omega
      · cases h; omega
theorem oldM_keep {K : Nat → EV} {i : Nat} (h : ¬ (K i).2.2.2.2.2.2 = 0) : oldM K (i + 1) = oldM K i := by
  rw [oldM]
  cases hq : oldM K i with
  | none => simp [h]
  | some o => simp [h]
theorem oldM_first {K : Nat → EV} {i : Nat} (h : (K i).2.2.2.2.2.2 = 0) (h0 : oldM K i = none) : oldM K (i + 1) = some i := by
  show (match oldM K i with | none => _ | some o => _) = _
  rw [h0]; simp [h]
theorem oldM_new {K : Nat → EV} {i o : Nat} (h : (K i).2.2.2.2.2.2 = 0) (h0 : oldM K i = some o) (hl : (K i).2.2.2.2.2.1 < (K o).2.2.2.2.2.1) : oldM K (i + 1) = some i := by
  show (match oldM K i with | none => _ | some o => _) = _
  rw [h0]; simp [h, hl]
theorem oldM_old {K : Nat → EV} {i o : Nat} (h0 : oldM K i = some o) (hl : ¬ (K i).2.2.2.2.2.1 < (K o).2.2.2.2.2.1) : oldM K (i + 1) = some o := by
  show (match oldM K i with | none => _ | some o => _) = _
  rw [h0]; simp [hl]
/-- the kept entries' rows, and the pile's -/
def KA (Γ : Gm) (f : Hm) (r : Nat → Nat) (K : Nat → EV) : Prop :=
  f (r 14) = some (eJ Γ 64 (fun j => (K j).1)) ∧ f (r 15) = some (eI Γ 64 (fun j => (K j).2.1)) ∧ f (r 16) = some (eI Γ 64 (fun j => (K j).2.2.1)) ∧ f (r 17) = some (eI Γ 64 (fun j => (K j).2.2.2.1)) ∧ f (r 18) = some (eI Γ 64 (fun j => (K j).2.2.2.2.1)) ∧ f (r 19) = some (eI Γ 64 (fun j => (K j).2.2.2.2.2.1)) ∧ f (r 20) = some (eI Γ 64 (fun j => (K j).2.2.2.2.2.2))
def rI (r : Nat → Nat) : Prop := ∀ i j, i < 28 → j < 28 → i ≠ j → r i ≠ r j
def kS (m0 : Nat) (r : Nat → Nat) : Nat → Prop := fun q => q = m0 ∨ ∃ k, 14 ≤ k ∧ k ≤ 20 ∧ q = r k
theorem upd_fun {α : Type} (p : α → Int32) (K : Nat → α) (k : Nat) (y : α) : upd (fun j => p (K j)) k (p y) = fun j => p (if j = k then y else K j) := by
  funext j
  unfold upd
  split <;> rfl
theorem updL_fun {α : Type} (p : α → Int64) (K : Nat → α) (k : Nat) (y : α) : vp_updL (fun j => p (K j)) k (p y) = fun j => p (if j = k then y else K j) := by
  funext j
  unfold vp_updL
  split <;> rfl
set_option maxHeartbeats 4000000 in
set_option maxRecDepth 100000 in
theorem c_X8_can (Γ : Gm) (l : Launch) (m0 : Nat) (r : Nat → Nat) (mth mpl mga mtr mke mro mck mli mdz mgd mhi mmi mfh msh msm mso : Int32) (msp mrf : Int64) (t : Nat → Nat) (to : Nat) (f : Hm) (hm0 : f m0 = some (eM r mth mpl mga mtr mke mro mck mli mdz mgd mhi mmi mfh msh msm mso msp mrf)) (ht : tl 15 t) (hto : to < 4) : Ct Γ l yX8_can cX8_can 4 (some .boolean) 3 0 0 [.ref m0, .long (b4 t), .int (nI to)] f (fun v f' => v = some (.int (bI (goN t to))) ∧ f' = hm_up f m0 (eM r mth mpl mga mtr mke mro mck mli mdz ((nI (gainT t to))) mhi mmi mfh msh msm mso msp mrf)) := by
  refine Ct_of (by decide +kernel) (Nat.le_of_ble_eq_true rfl) ?_
  intro p e s m args below meth c hx hb hr hml hown hin hlocks hts hH hO hK ls hl
  have hl : lv_has ls 4 [(0, .ref m0), (1, .long (b4 t)), (3, .int (nI to))] := hl
  have hS : va_S (gA Γ) s.heap s.heap [] := va_S.rf
  refine lv_aload_n hx hb dX8_can_0 rfl (lv_at hl 0 rfl) ?_
  refine lv_lload_n hx hb dX8_can_1 rfl (lv_at hl 1 rfl) ?_
  refine lv_iload_n hx hb dX8_can_2 rfl (lv_at hl 2 rfl) ?_
  refine hm_callV (rest := []) (k := 2) q5_154 q5_156 q1_9 q5_157 q0_21 rfl nm_X8_pushed rfl hx hb hml hown hts hK hO hS hH hl.1 hm0 (c_X8_pushed Γ l m0 r mth mpl mga mtr mke mro mck mli mdz mgd mhi mmi mfh msh msm mso msp mrf t to f hm0 ht hto) ⟨Nat.le_of_ble_eq_true rfl, Nat.le_of_ble_eq_true rfl⟩ ⟨Nat.le_of_ble_eq_true rfl, Nat.le_of_ble_eq_true rfl⟩ rfl (Nat.le_of_ble_eq_true rfl) dX8_can_3 (fun v_ f_ H locs hp_ hH hS => ?_)
  obtain ⟨rfl, ef_⟩ := hp_
  refine W.eq (g2 := F0 m 6 ls [.long (b4 (pushT t to))]) rfl ?_
  refine lv_lload_n hx hb dX8_can_6 rfl (lv_at hl 1 rfl) ?_
  refine W.lcmp hx hb dX8_can_7 ?_
  refine lv_if_eq (tgt := 15) hx hb dX8_can_8 (by decide) (fun c2 => ?_) (fun c2 => ?_)
  · refine lv_iconst (v := 0) hx hb dX8_can_15 (by decide) ?_
    subst ef_
    exact hm_zret hx hb hr rfl hlocks hS hH (⟨by rw [(goN_4 ht hto).mp (m_cmp.mp c2)]; rfl, rfl⟩) (Nat.le_of_ble_eq_true rfl) (Nat.le_of_ble_eq_true rfl) dX8_can_16
  · refine lv_iconst (v := 1) hx hb dX8_can_11 (by decide) ?_
    refine lv_goto (tgt := 16) hx hb dX8_can_12 (by decide) ?_
    subst ef_
    exact hm_zret hx hb hr rfl hlocks hS hH (⟨by have h : goN t to = true := by { cases hb9 : goN t to with | true => rfl | false => exact absurd (m_cmp.mpr ((goN_4 ht hto).mpr hb9)) c2 }; rw [h]; rfl, rfl⟩) (Nat.le_of_ble_eq_true rfl) (Nat.le_of_ble_eq_true rfl) dX8_can_16
set_option maxHeartbeats 4000000 in
set_option maxRecDepth 100000 in
theorem c_X8_over (Γ : Gm) (l : Launch) (m0 : Nat) (r : Nat → Nat) (mth mpl mga mtr mke mro mck mli mdz mgd mhi mmi mfh msh msm mso : Int32) (msp mrf : Int64) (t : Nat → Nat) (f : Hm) (hm0 : f m0 = some (eM r mth mpl mga mtr mke mro mck mli mdz mgd mhi mmi mfh msh msm mso msp mrf)) (ht : tl 15 t) : Ct Γ l yX8_over cX8_over 3 (some .boolean) 4 0 0 [.ref m0, .long (b4 t)] f (fun v f' => v = some (.int (bI (ovN t))) ∧ ∃ y, f' = hm_up f m0 (eM r mth mpl mga mtr mke mro mck mli mdz y mhi mmi mfh msh msm mso msp mrf)) := by
  refine Ct_of (by decide +kernel) (Nat.le_of_ble_eq_true rfl) ?_
  intro p e s m args below meth c hx hb hr hml hown hin hlocks hts hH hO hK ls hl
  have hl : lv_has ls 3 [(0, .ref m0), (1, .long (b4 t))] := hl
  have hS : va_S (gA Γ) s.heap s.heap [] := va_S.rf
  refine lv_aload_n hx hb dX8_over_0 rfl (lv_at hl 0 rfl) ?_
  refine lv_lload_n hx hb dX8_over_1 rfl (lv_at hl 1 rfl) ?_
  refine lv_iconst (v := 0) hx hb dX8_over_2 (by decide) ?_
  refine hm_callV (rest := []) (k := 3) q5_150 q5_152 q1_9 q5_153 q0_20 rfl nm_X8_can rfl hx hb hml hown hts hK hO hS hH hl.1 hm0 (c_X8_can Γ l m0 r mth mpl mga mtr mke mro mck mli mdz mgd mhi mmi mfh msh msm mso msp mrf t 0 f hm0 ht (by decide)) ⟨Nat.le_of_ble_eq_true rfl, Nat.le_of_ble_eq_true rfl⟩ ⟨Nat.le_of_ble_eq_true rfl, Nat.le_of_ble_eq_true rfl⟩ rfl (Nat.le_of_ble_eq_true rfl) dX8_over_3 (fun v_ fc0_ H locs hp_ hH hS => ?_)
  obtain ⟨rfl, efc0_⟩ := hp_
  refine W.eq (g2 := F0 m 6 ls [.int (bI (goN t 0))]) rfl ?_
  have hmc0_ : fc0_ m0 = some (eM r mth mpl mga mtr mke mro mck mli mdz (nI (gainT t 0)) mhi mmi mfh msh msm mso msp mrf) := by rw [efc0_]; exact hm_us
  refine lv_if_ne (tgt := 40) hx hb dX8_over_6 (by decide) (fun c1 => ?_) (fun c1 => ?_)
  · refine lv_iconst (v := 0) hx hb dX8_over_40 (by decide) ?_
    subst efc0_
    exact hm_zret hx hb hr rfl hlocks hS hH (⟨by unfold ovN; simp [bI, bI_n.mp c1], nI (gainT t 0), by first | rfl | simp only [hm_uu]⟩) (Nat.le_of_ble_eq_true rfl) (Nat.le_of_ble_eq_true rfl) dX8_over_41
  · refine lv_aload_n hx hb dX8_over_9 rfl (lv_at hl 0 rfl) ?_
    refine lv_lload_n hx hb dX8_over_10 rfl (lv_at hl 1 rfl) ?_
    refine lv_iconst (v := 1) hx hb dX8_over_11 (by decide) ?_
    refine hm_callV (rest := []) (k := 3) q5_150 q5_152 q1_9 q5_153 q0_20 rfl nm_X8_can rfl hx hb hml hown hts hK hO hS hH hl.1 hmc0_ (c_X8_can Γ l m0 r mth mpl mga mtr mke mro mck mli mdz (nI (gainT t 0)) mhi mmi mfh msh msm mso msp mrf t 1 fc0_ hmc0_ ht (by decide)) ⟨Nat.le_of_ble_eq_true rfl, Nat.le_of_ble_eq_true rfl⟩ ⟨Nat.le_of_ble_eq_true rfl, Nat.le_of_ble_eq_true rfl⟩ rfl (Nat.le_of_ble_eq_true rfl) dX8_over_12 (fun v_ fc1_ H locs hp_ hH hS => ?_)
    obtain ⟨rfl, efc1_⟩ := hp_
    refine W.eq (g2 := F0 m 15 ls [.int (bI (goN t 1))]) rfl ?_
    have hmc1_ : fc1_ m0 = some (eM r mth mpl mga mtr mke mro mck mli mdz (nI (gainT t 1)) mhi mmi mfh msh msm mso msp mrf) := by rw [efc1_]; exact hm_us
    refine lv_if_ne (tgt := 40) hx hb dX8_over_15 (by decide) (fun c2 => ?_) (fun c2 => ?_)
    · refine lv_iconst (v := 0) hx hb dX8_over_40 (by decide) ?_
      subst efc1_
      subst efc0_
      exact hm_zret hx hb hr rfl hlocks hS hH (⟨by unfold ovN; simp [bI, bI_0.mp c1, bI_n.mp c2], nI (gainT t 1), by first | rfl | simp only [hm_uu]⟩) (Nat.le_of_ble_eq_true rfl) (Nat.le_of_ble_eq_true rfl) dX8_over_41
    · refine lv_aload_n hx hb dX8_over_18 rfl (lv_at hl 0 rfl) ?_
      refine lv_lload_n hx hb dX8_over_19 rfl (lv_at hl 1 rfl) ?_
      refine lv_iconst (v := 2) hx hb dX8_over_20 (by decide) ?_
      refine hm_callV (rest := []) (k := 3) q5_150 q5_152 q1_9 q5_153 q0_20 rfl nm_X8_can rfl hx hb hml hown hts hK hO hS hH hl.1 hmc1_ (c_X8_can Γ l m0 r mth mpl mga mtr mke mro mck mli mdz (nI (gainT t 1)) mhi mmi mfh msh msm mso msp mrf t 2 fc1_ hmc1_ ht (by decide)) ⟨Nat.le_of_ble_eq_true rfl, Nat.le_of_ble_eq_true rfl⟩ ⟨Nat.le_of_ble_eq_true rfl, Nat.le_of_ble_eq_true rfl⟩ rfl (Nat.le_of_ble_eq_true rfl) dX8_over_21 (fun v_ fc2_ H locs hp_ hH hS => ?_)
      obtain ⟨rfl, efc2_⟩ := hp_
      refine W.eq (g2 := F0 m 24 ls [.int (bI (goN t 2))]) rfl ?_
      have hmc2_ : fc2_ m0 = some (eM r mth mpl mga mtr mke mro mck mli mdz (nI (gainT t 2)) mhi mmi mfh msh msm mso msp mrf) := by rw [efc2_]; exact hm_us
      refine lv_if_ne (tgt := 40) hx hb dX8_over_24 (by decide) (fun c3 => ?_) (fun c3 => ?_)
      · refine lv_iconst (v := 0) hx hb dX8_over_40 (by decide) ?_
        subst efc2_
        subst efc1_
        subst efc0_
        exact hm_zret hx hb hr rfl hlocks hS hH (⟨by unfold ovN; simp [bI, bI_0.mp c1, bI_0.mp c2, bI_n.mp c3], nI (gainT t 2), by first | rfl | simp only [hm_uu]⟩) (Nat.le_of_ble_eq_true rfl) (Nat.le_of_ble_eq_true rfl) dX8_over_41
      · refine lv_aload_n hx hb dX8_over_27 rfl (lv_at hl 0 rfl) ?_
        refine lv_lload_n hx hb dX8_over_28 rfl (lv_at hl 1 rfl) ?_
        refine lv_iconst (v := 3) hx hb dX8_over_29 (by decide) ?_
        refine hm_callV (rest := []) (k := 3) q5_150 q5_152 q1_9 q5_153 q0_20 rfl nm_X8_can rfl hx hb hml hown hts hK hO hS hH hl.1 hmc2_ (c_X8_can Γ l m0 r mth mpl mga mtr mke mro mck mli mdz (nI (gainT t 2)) mhi mmi mfh msh msm mso msp mrf t 3 fc2_ hmc2_ ht (by decide)) ⟨Nat.le_of_ble_eq_true rfl, Nat.le_of_ble_eq_true rfl⟩ ⟨Nat.le_of_ble_eq_true rfl, Nat.le_of_ble_eq_true rfl⟩ rfl (Nat.le_of_ble_eq_true rfl) dX8_over_30 (fun v_ fc3_ H locs hp_ hH hS => ?_)
        obtain ⟨rfl, efc3_⟩ := hp_
        refine W.eq (g2 := F0 m 33 ls [.int (bI (goN t 3))]) rfl ?_
        have hmc3_ : fc3_ m0 = some (eM r mth mpl mga mtr mke mro mck mli mdz (nI (gainT t 3)) mhi mmi mfh msh msm mso msp mrf) := by rw [efc3_]; exact hm_us
        refine lv_if_ne (tgt := 40) hx hb dX8_over_33 (by decide) (fun c4 => ?_) (fun c4 => ?_)
        · refine lv_iconst (v := 0) hx hb dX8_over_40 (by decide) ?_
          subst efc3_
          subst efc2_
          subst efc1_
          subst efc0_
          exact hm_zret hx hb hr rfl hlocks hS hH (⟨by unfold ovN; simp [bI, bI_0.mp c1, bI_0.mp c2, bI_0.mp c3, bI_n.mp c4], nI (gainT t 3), by first | rfl | simp only [hm_uu]⟩) (Nat.le_of_ble_eq_true rfl) (Nat.le_of_ble_eq_true rfl) dX8_over_41
        · refine lv_iconst (v := 1) hx hb dX8_over_36 (by decide) ?_
          refine lv_goto (tgt := 41) hx hb dX8_over_37 (by decide) ?_
          subst efc3_
          subst efc2_
          subst efc1_
          subst efc0_
          exact hm_zret hx hb hr rfl hlocks hS hH (⟨by unfold ovN; simp [bI, bI_0.mp c1, bI_0.mp c2, bI_0.mp c3, bI_0.mp c4], nI (gainT t 3), by first | rfl | simp only [hm_uu]⟩) (Nat.le_of_ble_eq_true rfl) (Nat.le_of_ble_eq_true rfl) dX8_over_41
set_option maxHeartbeats 4000000 in
set_option maxRecDepth 100000 in
theorem c_X8_no (Γ : Gm) (l : Launch) (m0 : Nat) (r : Nat → Nat) (mth mpl mga mtr mke mro mck mli mdz mgd mhi mmi mfh msh msm mso : Int32) (msp mrf : Int64) (b : Bool) (pl_ : Int32) (f : Hm) (hm0 : f m0 = some (eM r mth mpl mga mtr mke mro mck mli mdz mgd mhi mmi mfh msh msm mso msp mrf)) : Ct Γ l yX8_no cX8_no 3 (some .boolean) 1 0 0 [.ref m0, .int (bI b), .int pl_] f (fun v f' => v = some (.int (bI (!b))) ∧ f' = hm_up f m0 (eM r ((if b then 0 else pl_)) mpl mga mtr mke mro mck mli mdz mgd mhi mmi mfh msh msm mso msp mrf)) := by
  refine Ct_of (by decide +kernel) (Nat.le_of_ble_eq_true rfl) ?_
  intro p e s m args below meth c hx hb hr hml hown hin hlocks hts hH hO hK ls hl
  have hl : lv_has ls 3 [(0, .ref m0), (1, .int (bI b)), (2, .int pl_)] := hl
  have hS : va_S (gA Γ) s.heap s.heap [] := va_S.rf
  cases b with
  | false =>
    refine lv_aload_n hx hb dX8_no_0 rfl (lv_at hl 0 rfl) ?_
    refine lv_iload_n hx hb dX8_no_1 rfl (lv_at hl 1 rfl) ?_
    refine lv_if_eq (tgt := 9) hx hb dX8_no_2 (by decide) (fun _ => ?_) (fun c1 => absurd (rfl) c1)
    refine lv_iload_n hx hb dX8_no_9 rfl (lv_at hl 2 rfl) ?_
    refine pf_X8_103 hx hb hts hown hK hO hS hH hm0 rfl (Nat.le_of_ble_eq_true rfl) rfl dX8_no_10 (fun H locs hH hS => ?_)
    obtain ⟨f2, ef2⟩ : ∃ zz_, zz_ = hm_up f m0 (eM r pl_ mpl mga mtr mke mro mck mli mdz mgd mhi mmi mfh msh msm mso msp mrf) := ⟨_, rfl⟩
    have hH : hm_H Γ f2 H := by rw [ef2]; exact hH
    have h3 : f2 m0 = some (eM r pl_ mpl mga mtr mke mro mck mli mdz mgd mhi mmi mfh msh msm mso msp mrf) := by rw [ef2]; exact hm_us
    refine lv_iload_n hx hb dX8_no_13 rfl (lv_at hl 1 rfl) ?_
    refine lv_if_ne (tgt := 21) hx hb dX8_no_14 (by decide) (fun c4 => absurd (rfl) c4) (fun _ => ?_)
    refine lv_iconst (v := 1) hx hb dX8_no_17 (by decide) ?_
    refine lv_goto (tgt := 22) hx hb dX8_no_18 (by decide) ?_
    subst ef2
    exact hm_zret hx hb hr rfl hlocks hS hH (⟨rfl, rfl⟩) (Nat.le_of_ble_eq_true rfl) (Nat.le_of_ble_eq_true rfl) dX8_no_22
  | true =>
    refine lv_aload_n hx hb dX8_no_0 rfl (lv_at hl 0 rfl) ?_
    refine lv_iload_n hx hb dX8_no_1 rfl (lv_at hl 1 rfl) ?_
    refine lv_if_eq (tgt := 9) hx hb dX8_no_2 (by decide) (fun c1 => absurd c1 (by decide)) (fun _ => ?_)
    refine lv_iconst (v := 0) hx hb dX8_no_5 (by decide) ?_
    refine lv_goto (tgt := 10) hx hb dX8_no_6 (by decide) ?_
    refine pf_X8_103 hx hb hts hown hK hO hS hH hm0 rfl (Nat.le_of_ble_eq_true rfl) rfl dX8_no_10 (fun H locs hH hS => ?_)
    obtain ⟨f2, ef2⟩ : ∃ zz_, zz_ = hm_up f m0 (eM r 0 mpl mga mtr mke mro mck mli mdz mgd mhi mmi mfh msh msm mso msp mrf) := ⟨_, rfl⟩
    have hH : hm_H Γ f2 H := by rw [ef2]; exact hH
    have h3 : f2 m0 = some (eM r 0 mpl mga mtr mke mro mck mli mdz mgd mhi mmi mfh msh msm mso msp mrf) := by rw [ef2]; exact hm_us
    refine lv_iload_n hx hb dX8_no_13 rfl (lv_at hl 1 rfl) ?_
    refine lv_if_ne (tgt := 21) hx hb dX8_no_14 (by decide) (fun _ => ?_) (fun c4 => absurd c4 (by decide))
    refine lv_iconst (v := 0) hx hb dX8_no_21 (by decide) ?_
    subst ef2
    exact hm_zret hx hb hr rfl hlocks hS hH (⟨rfl, rfl⟩) (Nat.le_of_ble_eq_true rfl) (Nat.le_of_ble_eq_true rfl) dX8_no_22
def inB (v n : Int32) : Bool := !decide (v < 0) && decide (v < n)
theorem inB_iff {v : Int32} {n : Nat} (hn : n < 2 ^ 31) : inB v (nI n) = true ↔ ∃ i, i < n ∧ v = nI i := by
  unfold inB
  constructor
  · intro h
    have h1 := (Bool.and_eq_true _ _).mp h
    have h2 : ¬ v < 0 := by
      have := h1.1
      simpa using this
    exact rng_in h2 (of_decide_eq_true h1.2) hn
  · rintro ⟨i, hi, rfl⟩
    rw [decide_eq_false (nI_pos (by omega)), decide_eq_true (nI_lt hi hn)]
    rfl
set_option maxHeartbeats 4000000 in
set_option maxRecDepth 100000 in
theorem c_X8_noGame (Γ : Gm) (l : Launch) (m0 : Nat) (r : Nat → Nat) (mth mpl mga mtr mke mro mck mli mdz mgd mhi mmi mfh msh msm mso : Int32) (msp mrf : Int64) (v0 : Int32) (f : Hm) (hm0 : f m0 = some (eM r mth mpl mga mtr mke mro mck mli mdz mgd mhi mmi mfh msh msm mso msp mrf)) : Ct Γ l yX8_noGame cX8_noGame 2 (some .boolean) 2 0 0 [.ref m0, .int v0] f (fun v f' => v = some (.int (bI (!inB v0 mga))) ∧ f' = hm_up f m0 (eM r ((if inB v0 mga then 0 else 1)) mpl mga mtr mke mro mck mli mdz mgd mhi mmi mfh msh msm mso msp mrf)) := by
  refine Ct_of (by decide +kernel) (Nat.le_of_ble_eq_true rfl) ?_
  intro p e s m args below meth c hx hb hr hml hown hin hlocks hts hH hO hK ls hl
  have hl : lv_has ls 2 [(0, .ref m0), (1, .int v0)] := hl
  have hS : va_S (gA Γ) s.heap s.heap [] := va_S.rf
  refine lv_aload_n hx hb dX8_noGame_0 rfl (lv_at hl 0 rfl) ?_
  refine lv_iload_n hx hb dX8_noGame_1 rfl (lv_at hl 1 rfl) ?_
  refine lv_if_lt (tgt := 17) hx hb dX8_noGame_2 (by decide) (fun c1 => ?_) (fun c1 => ?_)
  · refine lv_iconst (v := 0) hx hb dX8_noGame_17 (by decide) ?_
    refine lv_iconst (v := 1) hx hb dX8_noGame_18 (by decide) ?_
    have hbe := (show inB v0 mga = false by unfold inB; rw [decide_eq_true c1]; rfl)
    refine W.eq (g2 := F0 m 19 ls [.int 1, .int (bI (inB v0 mga)), .ref m0]) (by rw [hbe]; rfl) ?_
    refine hm_callV (rest := []) (k := 1) q5_119 q5_121 q1_9 q5_122 q0_17 rfl nm_X8_no rfl hx hb hml hown hts hK hO hS hH hl.1 hm0 (c_X8_no Γ l m0 r mth mpl mga mtr mke mro mck mli mdz mgd mhi mmi mfh msh msm mso msp mrf (inB v0 mga) 1 f hm0) ⟨Nat.le_of_ble_eq_true rfl, Nat.le_of_ble_eq_true rfl⟩ ⟨Nat.le_of_ble_eq_true rfl, Nat.le_of_ble_eq_true rfl⟩ rfl (Nat.le_of_ble_eq_true rfl) dX8_noGame_19 (fun v_ f_ H locs hp_ hH hS => ?_)
    obtain ⟨rfl, ef_⟩ := hp_
    refine W.eq (g2 := F0 m 22 ls [.int (bI (!inB v0 mga))]) rfl ?_
    subst ef_
    exact hm_zret hx hb hr (bI_nar _) hlocks hS hH (⟨rfl, rfl⟩) (Nat.le_of_ble_eq_true rfl) (Nat.le_of_ble_eq_true rfl) dX8_noGame_22
  · refine lv_iload_n hx hb dX8_noGame_5 rfl (lv_at hl 1 rfl) ?_
    refine lv_aload_n hx hb dX8_noGame_6 rfl (lv_at hl 0 rfl) ?_
    refine gf_X8_106 hx hb hts hown hK hH hm0 rfl dX8_noGame_7 ?_
    refine lv_icmp_ge (tgt := 17) hx hb dX8_noGame_10 (by decide) (fun c2 => ?_) (fun c2 => ?_)
    · refine lv_iconst (v := 0) hx hb dX8_noGame_17 (by decide) ?_
      refine lv_iconst (v := 1) hx hb dX8_noGame_18 (by decide) ?_
      have hbe := (show inB v0 mga = false by unfold inB; rw [decide_eq_false (Int32.not_lt.mpr c2), Bool.and_false])
      refine W.eq (g2 := F0 m 19 ls [.int 1, .int (bI (inB v0 mga)), .ref m0]) (by rw [hbe]; rfl) ?_
      refine hm_callV (rest := []) (k := 1) q5_119 q5_121 q1_9 q5_122 q0_17 rfl nm_X8_no rfl hx hb hml hown hts hK hO hS hH hl.1 hm0 (c_X8_no Γ l m0 r mth mpl mga mtr mke mro mck mli mdz mgd mhi mmi mfh msh msm mso msp mrf (inB v0 mga) 1 f hm0) ⟨Nat.le_of_ble_eq_true rfl, Nat.le_of_ble_eq_true rfl⟩ ⟨Nat.le_of_ble_eq_true rfl, Nat.le_of_ble_eq_true rfl⟩ rfl (Nat.le_of_ble_eq_true rfl) dX8_noGame_19 (fun v_ f_ H locs hp_ hH hS => ?_)
      obtain ⟨rfl, ef_⟩ := hp_
      refine W.eq (g2 := F0 m 22 ls [.int (bI (!inB v0 mga))]) rfl ?_
      subst ef_
      exact hm_zret hx hb hr (bI_nar _) hlocks hS hH (⟨rfl, rfl⟩) (Nat.le_of_ble_eq_true rfl) (Nat.le_of_ble_eq_true rfl) dX8_noGame_22
    · refine lv_iconst (v := 1) hx hb dX8_noGame_13 (by decide) ?_
      refine lv_goto (tgt := 18) hx hb dX8_noGame_14 (by decide) ?_
      refine lv_iconst (v := 1) hx hb dX8_noGame_18 (by decide) ?_
      have hbe := (show inB v0 mga = true by unfold inB; rw [decide_eq_false c1, decide_eq_true (Int32.not_le.mp c2)]; rfl)
      refine W.eq (g2 := F0 m 19 ls [.int 1, .int (bI (inB v0 mga)), .ref m0]) (by rw [hbe]; rfl) ?_
      refine hm_callV (rest := []) (k := 1) q5_119 q5_121 q1_9 q5_122 q0_17 rfl nm_X8_no rfl hx hb hml hown hts hK hO hS hH hl.1 hm0 (c_X8_no Γ l m0 r mth mpl mga mtr mke mro mck mli mdz mgd mhi mmi mfh msh msm mso msp mrf (inB v0 mga) 1 f hm0) ⟨Nat.le_of_ble_eq_true rfl, Nat.le_of_ble_eq_true rfl⟩ ⟨Nat.le_of_ble_eq_true rfl, Nat.le_of_ble_eq_true rfl⟩ rfl (Nat.le_of_ble_eq_true rfl) dX8_noGame_19 (fun v_ f_ H locs hp_ hH hS => ?_)
      obtain ⟨rfl, ef_⟩ := hp_
      refine W.eq (g2 := F0 m 22 ls [.int (bI (!inB v0 mga))]) rfl ?_
      subst ef_
      exact hm_zret hx hb hr (bI_nar _) hlocks hS hH (⟨rfl, rfl⟩) (Nat.le_of_ble_eq_true rfl) (Nat.le_of_ble_eq_true rfl) dX8_noGame_22
set_option maxHeartbeats 4000000 in
set_option maxRecDepth 100000 in
theorem c_X8_find (Γ : Gm) (l : Launch) (m0 : Nat) (r : Nat → Nat) (mth mpl mga mtr mro mck mli mdz mgd mhi mmi mfh msh msm mso : Int32) (msp mrf : Int64) (kp : Nat) (K : Nat → EV) (b : Int64) (z d : Int32) (f : Hm) (hm0 : f m0 = some (eM r mth mpl mga mtr ((nI kp)) mro mck mli mdz mgd mhi mmi mfh msh msm mso msp mrf)) (hKA : KA Γ f r K) (hkp : kp ≤ 64) : Ct Γ l yX8_find cX8_find 6 (some .int) 1 0 0 [.ref m0, .long b, .int z, .int d] f (fun v f' => fndI (fun j => isFor (K j) b z d) kp v ∧ f' = f) := by
  refine Ct_of (by decide +kernel) (Nat.le_of_ble_eq_true rfl) ?_
  intro p e s m args below meth c hx hb hr hml hown hin hlocks hts hH hO hK ls hl
  have hl : lv_has ls 6 [(0, .ref m0), (1, .long b), (3, .int z), (4, .int d)] := hl
  have hS : va_S (gA Γ) s.heap s.heap [] := va_S.rf
  obtain ⟨hk0, hk1, hk2, hk3, hk4, hk5, hk6⟩ := id hKA
  have loop : ∀ (k_ i : Nat), i + k_ = kp → (∀ j, j < i → isFor (K j) b z d = false) → ∀ (H : Heap) (locs : List Loc), hm_H Γ f H → va_S (gA Γ) s.heap H locs → ∀ ls : Array Slot, lv_has ls 6 [(5, .int (nI i)), (0, .ref m0), (1, .long b), (3, .int z), (4, .int d)] → W p l e (rmk 1 0 0) s m args below meth c H locs 0 0 (MQ below (hm_Q Γ (fun v f' => fndI (fun j => isFor (K j) b z d) kp v ∧ f' = f)) args s 0 0 (gA Γ)) (F0 m 3 ls []) := by
    intro k_
    induction k_ with
      | zero =>
        intro i hin_ hinv H locs hH hS ls hl
        have hi : i = kp := by omega
        subst hi
        refine lv_iload hx hb dX8_find_3 (lv_at hl 0 rfl) ?_
        refine lv_aload_n hx hb dX8_find_5 rfl (lv_at hl 1 rfl) ?_
        refine gf_X8_169 hx hb hts hown hK hH hm0 rfl dX8_find_6 ?_
        refine lv_icmp_ge (tgt := 56) hx hb dX8_find_9 (by decide) (fun _ => ?_) (fun c1 => absurd (nI_le (Nat.le_refl _) (by omega)) c1)
        refine lv_iconst (v := (-1)) hx hb dX8_find_56 (by decide) ?_
        exact hm_iret hx hb hr hlocks hS hH (⟨Or.inl ⟨rfl, hinv⟩, rfl⟩) (Nat.le_of_ble_eq_true rfl) (Nat.le_of_ble_eq_true rfl) dX8_find_57
      | succ k_ ih =>
        intro i hin_ hinv H locs hH hS ls hl
        have hi : i < kp := by omega
        refine lv_iload hx hb dX8_find_3 (lv_at hl 0 rfl) ?_
        refine lv_aload_n hx hb dX8_find_5 rfl (lv_at hl 1 rfl) ?_
        refine gf_X8_169 hx hb hts hown hK hH hm0 rfl dX8_find_6 ?_
        refine lv_icmp_ge (tgt := 56) hx hb dX8_find_9 (by decide) (fun c1 => absurd c1 (nI_ge hi (by omega))) (fun _ => ?_)
        refine lv_aload_n hx hb dX8_find_12 rfl (lv_at hl 1 rfl) ?_
        refine gf_X8_54 hx hb hts hown hK hH hm0 rfl dX8_find_13 ?_
        refine lv_iload hx hb dX8_find_16 (lv_at hl 0 rfl) ?_
        refine hm_lald hx hb hK hH hk0 (vp_in_nI (show i < 64 by omega) (by decide)) dX8_find_18 ?_
        refine lv_topl (fun v2 ev2 => ?_)
        replace ev2 : v2 = (K i).1 := ev2.trans (by show (K (nI i).toNatClampNeg).1 = _; rw [nI_clamp (by omega)])
        subst ev2
        refine lv_lload_n hx hb dX8_find_19 rfl (lv_at hl 2 rfl) ?_
        refine W.lcmp hx hb dX8_find_20 ?_
        refine lv_if_ne (tgt := 50) hx hb dX8_find_21 (by decide) (fun c4 => ?_) (fun c4 => ?_)
        · refine lv_iinc (v := (nI (i + 1))) (lv' := [(5, .int ((nI (i + 1)))), (0, .ref m0), (1, .long b), (3, .int z), (4, .int d)]) hx hb dX8_find_50 hl (k := 0) rfl (nI_1 i) (by decide) rfl (fun ls hl => ?_)
          refine lv_goto (tgt := 3) hx hb dX8_find_53 (by decide) ?_
          exact ih (i + 1) (by omega) (all_s hinv (by unfold isFor; rw [decide_eq_false (fun q => c4 (m_cmp.mpr q))]; rfl)) H locs hH hS ls (lv_sub hl [0, 1, 2, 3, 4] rfl)
        · refine lv_aload_n hx hb dX8_find_24 rfl (lv_at hl 1 rfl) ?_
          refine gf_X8_57 hx hb hts hown hK hH hm0 rfl dX8_find_25 ?_
          refine lv_iload hx hb dX8_find_28 (lv_at hl 0 rfl) ?_
          refine hm_iald hx hb hK hH hk1 (vp_in_nI (show i < 64 by omega) (by decide)) dX8_find_30 ?_
          refine lv_topi (fun v5 ev5 => ?_)
          replace ev5 : v5 = (K i).2.1 := ev5.trans (by show (K (nI i).toNatClampNeg).2.1 = _; rw [nI_clamp (by omega)])
          subst ev5
          refine lv_iload_n hx hb dX8_find_31 rfl (lv_at hl 3 rfl) ?_
          refine lv_icmp_ne (tgt := 50) hx hb dX8_find_32 (by decide) (fun c6 => ?_) (fun c6 => ?_)
          · refine lv_iinc (v := (nI (i + 1))) (lv' := [(5, .int ((nI (i + 1)))), (0, .ref m0), (1, .long b), (3, .int z), (4, .int d)]) hx hb dX8_find_50 hl (k := 0) rfl (nI_1 i) (by decide) rfl (fun ls hl => ?_)
            refine lv_goto (tgt := 3) hx hb dX8_find_53 (by decide) ?_
            exact ih (i + 1) (by omega) (all_s hinv (by unfold isFor; rw [decide_eq_false (p := (K i).2.1 = z) c6, Bool.and_false]; rfl)) H locs hH hS ls (lv_sub hl [0, 1, 2, 3, 4] rfl)
          · refine lv_aload_n hx hb dX8_find_35 rfl (lv_at hl 1 rfl) ?_
            refine gf_X8_60 hx hb hts hown hK hH hm0 rfl dX8_find_36 ?_
            refine lv_iload hx hb dX8_find_39 (lv_at hl 0 rfl) ?_
            refine hm_iald hx hb hK hH hk2 (vp_in_nI (show i < 64 by omega) (by decide)) dX8_find_41 ?_
            refine lv_topi (fun v7 ev7 => ?_)
            replace ev7 : v7 = (K i).2.2.1 := ev7.trans (by show (K (nI i).toNatClampNeg).2.2.1 = _; rw [nI_clamp (by omega)])
            subst ev7
            refine lv_iload hx hb dX8_find_42 (lv_at hl 4 rfl) ?_
            refine lv_icmp_ne (tgt := 50) hx hb dX8_find_44 (by decide) (fun c8 => ?_) (fun c8 => ?_)
            · refine lv_iinc (v := (nI (i + 1))) (lv' := [(5, .int ((nI (i + 1)))), (0, .ref m0), (1, .long b), (3, .int z), (4, .int d)]) hx hb dX8_find_50 hl (k := 0) rfl (nI_1 i) (by decide) rfl (fun ls hl => ?_)
              refine lv_goto (tgt := 3) hx hb dX8_find_53 (by decide) ?_
              exact ih (i + 1) (by omega) (all_s hinv (by unfold isFor; rw [decide_eq_false (p := (K i).2.2.1 = d) c8, Bool.and_false])) H locs hH hS ls (lv_sub hl [0, 1, 2, 3, 4] rfl)
            · refine lv_iload hx hb dX8_find_47 (lv_at hl 0 rfl) ?_
              exact hm_iret hx hb hr hlocks hS hH (⟨Or.inr ⟨i, hi, isFor_iff.mpr ⟨m_cmp.mp c4, c6, c8⟩, hinv, rfl⟩, rfl⟩) (Nat.le_of_ble_eq_true rfl) (Nat.le_of_ble_eq_true rfl) dX8_find_49
  refine lv_iconst (v := 0) hx hb dX8_find_0 (by decide) ?_
  refine lv_istore (lv' := [(5, .int 0), (0, .ref m0), (1, .long b), (3, .int z), (4, .int d)]) hx hb dX8_find_1 hl (by decide) rfl (fun ls hl => ?_)
  exact loop kp 0 (by omega) (fun _ h => absurd h (Nat.not_lt_zero _)) s.heap [] hH hS ls (lv_sub hl [0, 1, 2, 3, 4] rfl)
set_option maxHeartbeats 4000000 in
set_option maxRecDepth 100000 in
theorem c_X8_oldest (Γ : Gm) (l : Launch) (m0 : Nat) (r : Nat → Nat) (mth mpl mga mtr mro mck mli mdz mgd mhi mmi mfh msh msm mso : Int32) (msp mrf : Int64) (kp : Nat) (K : Nat → EV) (f : Hm) (hm0 : f m0 = some (eM r mth mpl mga mtr ((nI kp)) mro mck mli mdz mgd mhi mmi mfh msh msm mso msp mrf)) (hKA : KA Γ f r K) (hkp : kp ≤ 64) : Ct Γ l yX8_oldest cX8_oldest 3 (some .int) 1 0 0 [.ref m0] f (fun v f' => ((oldM K kp = none ∧ v = some (.int (-1))) ∨ ∃ o, oldM K kp = some o ∧ v = some (.int (nI o))) ∧ f' = f) := by
  refine Ct_of (by decide +kernel) (Nat.le_of_ble_eq_true rfl) ?_
  intro p e s m args below meth c hx hb hr hml hown hin hlocks hts hH hO hK ls hl
  have hl : lv_has ls 3 [(0, .ref m0)] := hl
  have hS : va_S (gA Γ) s.heap s.heap [] := va_S.rf
  obtain ⟨hk0, hk1, hk2, hk3, hk4, hk5, hk6⟩ := id hKA
  have loop : ∀ (k_ i : Nat) (ov : Int32), i + k_ = kp → ((oldM K i = none ∧ ov = -1) ∨ ∃ o, oldM K i = some o ∧ ov = nI o) → ∀ (H : Heap) (locs : List Loc), hm_H Γ f H → va_S (gA Γ) s.heap H locs → ∀ ls : Array Slot, lv_has ls 3 [(2, .int (nI i)), (1, .int ov), (0, .ref m0)] → W p l e (rmk 1 0 0) s m args below meth c H locs 0 0 (MQ below (hm_Q Γ (fun v f' => ((oldM K kp = none ∧ v = some (.int (-1))) ∨ ∃ o, oldM K kp = some o ∧ v = some (.int (nI o))) ∧ f' = f)) args s 0 0 (gA Γ)) (F0 m 4 ls []) := by
    intro k_
    induction k_ with
      | zero =>
        intro i ov hin_ hov H locs hH hS ls hl
        have hi : i = kp := by omega
        subst hi
        refine lv_iload_n hx hb dX8_oldest_4 rfl (lv_at hl 0 rfl) ?_
        refine lv_aload_n hx hb dX8_oldest_5 rfl (lv_at hl 2 rfl) ?_
        refine gf_X8_169 hx hb hts hown hK hH hm0 rfl dX8_oldest_6 ?_
        refine lv_icmp_ge (tgt := 49) hx hb dX8_oldest_9 (by decide) (fun _ => ?_) (fun c1 => absurd (nI_le (Nat.le_refl _) (by omega)) c1)
        refine lv_iload_n hx hb dX8_oldest_49 rfl (lv_at hl 1 rfl) ?_
        exact hm_iret hx hb hr hlocks hS hH (⟨by rcases hov with ⟨h1, h2⟩ | ⟨o, h1, h2⟩; exact Or.inl ⟨h1, by rw [h2]⟩; exact Or.inr ⟨o, h1, by rw [h2]⟩, rfl⟩) (Nat.le_of_ble_eq_true rfl) (Nat.le_of_ble_eq_true rfl) dX8_oldest_50
      | succ k_ ih =>
        intro i ov hin_ hov H locs hH hS ls hl
        have hi : i < kp := by omega
        rcases hov with ⟨ho, rfl⟩ | ⟨o, ho, rfl⟩
        · refine lv_iload_n hx hb dX8_oldest_4 rfl (lv_at hl 0 rfl) ?_
          refine lv_aload_n hx hb dX8_oldest_5 rfl (lv_at hl 2 rfl) ?_
          refine gf_X8_169 hx hb hts hown hK hH hm0 rfl dX8_oldest_6 ?_
          refine lv_icmp_ge (tgt := 49) hx hb dX8_oldest_9 (by decide) (fun c1 => absurd c1 (nI_ge hi (by omega))) (fun _ => ?_)
          refine lv_aload_n hx hb dX8_oldest_12 rfl (lv_at hl 2 rfl) ?_
          refine gf_X8_72 hx hb hts hown hK hH hm0 rfl dX8_oldest_13 ?_
          refine lv_iload_n hx hb dX8_oldest_16 rfl (lv_at hl 0 rfl) ?_
          refine hm_iald hx hb hK hH hk6 (vp_in_nI (show i < 64 by omega) (by decide)) dX8_oldest_17 ?_
          refine lv_topi (fun v2 ev2 => ?_)
          replace ev2 : v2 = (K i).2.2.2.2.2.2 := ev2.trans (by show (K (nI i).toNatClampNeg).2.2.2.2.2.2 = _; rw [nI_clamp (by omega)])
          subst ev2
          refine lv_if_ne (tgt := 43) hx hb dX8_oldest_18 (by decide) (fun c3 => ?_) (fun c3 => ?_)
          · refine lv_iinc (v := (nI (i + 1))) (lv' := [(2, .int ((nI (i + 1)))), (1, .int ((-1))), (0, .ref m0)]) hx hb dX8_oldest_43 hl (k := 0) rfl (nI_1 i) (by decide) rfl (fun ls hl => ?_)
            refine lv_goto (tgt := 4) hx hb dX8_oldest_46 (by decide) ?_
            exact ih (i + 1) ((-1)) (by omega) (Or.inl ⟨(oldM_keep c3).trans ho, rfl⟩) H locs hH hS ls (lv_sub hl [0, 1, 2] rfl)
          · refine lv_iload_n hx hb dX8_oldest_21 rfl (lv_at hl 1 rfl) ?_
            refine lv_iconst (v := (-1)) hx hb dX8_oldest_22 (by decide) ?_
            refine lv_icmp_eq (tgt := 41) hx hb dX8_oldest_23 (by decide) (fun _ => ?_) (fun c4 => absurd (by decide) c4)
            refine lv_iload_n hx hb dX8_oldest_41 rfl (lv_at hl 0 rfl) ?_
            refine lv_istore_n (lv' := [(1, .int (nI i)), (2, .int (nI i)), (0, .ref m0)]) hx hb dX8_oldest_42 rfl hl (by decide) rfl (fun ls hl => ?_)
            refine lv_iinc (v := (nI (i + 1))) (lv' := [(2, .int ((nI (i + 1)))), (1, .int (nI i)), (0, .ref m0)]) hx hb dX8_oldest_43 hl (k := 1) rfl (nI_1 i) (by decide) rfl (fun ls hl => ?_)
            refine lv_goto (tgt := 4) hx hb dX8_oldest_46 (by decide) ?_
            exact ih (i + 1) (nI i) (by omega) (Or.inr ⟨i, oldM_first c3 ho, rfl⟩) H locs hH hS ls (lv_sub hl [0, 1, 2] rfl)
        · have hoi := oldM_lt ho
          refine lv_iload_n hx hb dX8_oldest_4 rfl (lv_at hl 0 rfl) ?_
          refine lv_aload_n hx hb dX8_oldest_5 rfl (lv_at hl 2 rfl) ?_
          refine gf_X8_169 hx hb hts hown hK hH hm0 rfl dX8_oldest_6 ?_
          refine lv_icmp_ge (tgt := 49) hx hb dX8_oldest_9 (by decide) (fun c1 => absurd c1 (nI_ge hi (by omega))) (fun _ => ?_)
          refine lv_aload_n hx hb dX8_oldest_12 rfl (lv_at hl 2 rfl) ?_
          refine gf_X8_72 hx hb hts hown hK hH hm0 rfl dX8_oldest_13 ?_
          refine lv_iload_n hx hb dX8_oldest_16 rfl (lv_at hl 0 rfl) ?_
          refine hm_iald hx hb hK hH hk6 (vp_in_nI (show i < 64 by omega) (by decide)) dX8_oldest_17 ?_
          refine lv_topi (fun v2 ev2 => ?_)
          replace ev2 : v2 = (K i).2.2.2.2.2.2 := ev2.trans (by show (K (nI i).toNatClampNeg).2.2.2.2.2.2 = _; rw [nI_clamp (by omega)])
          subst ev2
          refine lv_if_ne (tgt := 43) hx hb dX8_oldest_18 (by decide) (fun c3 => ?_) (fun c3 => ?_)
          · refine lv_iinc (v := (nI (i + 1))) (lv' := [(2, .int ((nI (i + 1)))), (1, .int (nI o)), (0, .ref m0)]) hx hb dX8_oldest_43 hl (k := 0) rfl (nI_1 i) (by decide) rfl (fun ls hl => ?_)
            refine lv_goto (tgt := 4) hx hb dX8_oldest_46 (by decide) ?_
            exact ih (i + 1) (nI o) (by omega) (Or.inr ⟨o, (oldM_keep c3).trans ho, rfl⟩) H locs hH hS ls (lv_sub hl [0, 1, 2] rfl)
          · refine lv_iload_n hx hb dX8_oldest_21 rfl (lv_at hl 1 rfl) ?_
            refine lv_iconst (v := (-1)) hx hb dX8_oldest_22 (by decide) ?_
            refine lv_icmp_eq (tgt := 41) hx hb dX8_oldest_23 (by decide) (fun c4 => absurd c4 (fun q => absurd (show (nI o) < 0 by rw [q]; decide) (nI_pos (by omega)))) (fun _ => ?_)
            refine lv_aload_n hx hb dX8_oldest_26 rfl (lv_at hl 2 rfl) ?_
            refine gf_X8_69 hx hb hts hown hK hH hm0 rfl dX8_oldest_27 ?_
            refine lv_iload_n hx hb dX8_oldest_30 rfl (lv_at hl 0 rfl) ?_
            refine hm_iald hx hb hK hH hk5 (vp_in_nI (show i < 64 by omega) (by decide)) dX8_oldest_31 ?_
            refine lv_topi (fun v5 ev5 => ?_)
            replace ev5 : v5 = (K i).2.2.2.2.2.1 := ev5.trans (by show (K (nI i).toNatClampNeg).2.2.2.2.2.1 = _; rw [nI_clamp (by omega)])
            subst ev5
            refine lv_aload_n hx hb dX8_oldest_32 rfl (lv_at hl 2 rfl) ?_
            refine gf_X8_69 hx hb hts hown hK hH hm0 rfl dX8_oldest_33 ?_
            refine lv_iload_n hx hb dX8_oldest_36 rfl (lv_at hl 1 rfl) ?_
            refine hm_iald hx hb hK hH hk5 (vp_in_nI (show o < 64 by omega) (by decide)) dX8_oldest_37 ?_
            refine lv_topi (fun v6 ev6 => ?_)
            replace ev6 : v6 = (K o).2.2.2.2.2.1 := ev6.trans (by show (K (nI o).toNatClampNeg).2.2.2.2.2.1 = _; rw [nI_clamp (by omega)])
            subst ev6
            refine lv_icmp_ge (tgt := 43) hx hb dX8_oldest_38 (by decide) (fun c7 => ?_) (fun c7 => ?_)
            · refine lv_iinc (v := (nI (i + 1))) (lv' := [(2, .int ((nI (i + 1)))), (1, .int (nI o)), (0, .ref m0)]) hx hb dX8_oldest_43 hl (k := 0) rfl (nI_1 i) (by decide) rfl (fun ls hl => ?_)
              refine lv_goto (tgt := 4) hx hb dX8_oldest_46 (by decide) ?_
              exact ih (i + 1) (nI o) (by omega) (Or.inr ⟨o, oldM_old ho (Int32.not_lt.mpr c7), rfl⟩) H locs hH hS ls (lv_sub hl [0, 1, 2] rfl)
            · refine lv_iload_n hx hb dX8_oldest_41 rfl (lv_at hl 0 rfl) ?_
              refine lv_istore_n (lv' := [(1, .int (nI i)), (2, .int (nI i)), (0, .ref m0)]) hx hb dX8_oldest_42 rfl hl (by decide) rfl (fun ls hl => ?_)
              refine lv_iinc (v := (nI (i + 1))) (lv' := [(2, .int ((nI (i + 1)))), (1, .int (nI i)), (0, .ref m0)]) hx hb dX8_oldest_43 hl (k := 1) rfl (nI_1 i) (by decide) rfl (fun ls hl => ?_)
              refine lv_goto (tgt := 4) hx hb dX8_oldest_46 (by decide) ?_
              exact ih (i + 1) (nI i) (by omega) (Or.inr ⟨i, oldM_new c3 ho (Int32.not_le.mp c7), rfl⟩) H locs hH hS ls (lv_sub hl [0, 1, 2] rfl)
  refine lv_iconst (v := (-1)) hx hb dX8_oldest_0 (by decide) ?_
  refine lv_istore_n (lv' := [(1, .int ((-1))), (0, .ref m0)]) hx hb dX8_oldest_1 rfl hl (by decide) rfl (fun ls hl => ?_)
  refine lv_iconst (v := 0) hx hb dX8_oldest_2 (by decide) ?_
  refine lv_istore_n (lv' := [(2, .int 0), (1, .int ((-1))), (0, .ref m0)]) hx hb dX8_oldest_3 rfl hl (by decide) rfl (fun ls hl => ?_)
  exact loop kp 0 (-1) (by omega) (Or.inl ⟨rfl, rfl⟩) s.heap [] hH hS ls (lv_sub hl [0, 1, 2] rfl)
