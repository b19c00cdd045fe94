/-! the model: noTrace, and what is only looked up -/
set_option maxHeartbeats 4000000 in
set_option maxRecDepth 100000 in
theorem c_X8_noTrace (Γ : Gm) (l : Launch) (m0 : Nat) (r : Nat → Nat) (mth mpl mga mtr mke mro mck mli mdz mgd mhi mmi mfh msh msm mso : Int32) (msp mrf : Int64) (v0 : Int32) (f : Hm) (hm0 : f m0 = some (eM r mth mpl mga mtr mke mro mck mli mdz mgd mhi mmi mfh msh msm mso msp mrf)) : Ct Γ l yX8_noTrace cX8_noTrace 2 (some .boolean) 2 0 0 [.ref m0, .int v0] f (fun v f' => v = some (.int (bI (!inB v0 mtr))) ∧ f' = hm_up f m0 (eM r ((if inB v0 mtr then 0 else 1)) mpl mga mtr mke mro mck mli mdz mgd mhi mmi mfh msh msm mso msp mrf)) := by
  refine Ct_of (by decide +kernel) (Nat.le_of_ble_eq_true rfl) ?_
  intro p e s m args below meth c hx hb hr hml hown hin hlocks hts hH hO hK ls hl
  have hl : lv_has ls 2 [(0, .ref m0), (1, .int v0)] := hl
  have hS : va_S (gA Γ) s.heap s.heap [] := va_S.rf
  refine lv_aload_n hx hb dX8_noTrace_0 rfl (lv_at hl 0 rfl) ?_
  refine lv_iload_n hx hb dX8_noTrace_1 rfl (lv_at hl 1 rfl) ?_
  refine lv_if_lt (tgt := 17) hx hb dX8_noTrace_2 (by decide) (fun c1 => ?_) (fun c1 => ?_)
  · refine lv_iconst (v := 0) hx hb dX8_noTrace_17 (by decide) ?_
    refine lv_iconst (v := 1) hx hb dX8_noTrace_18 (by decide) ?_
    have hbe := (show inB v0 mtr = false by unfold inB; rw [decide_eq_true c1]; rfl)
    refine W.eq (g2 := F0 m 19 ls [.int 1, .int (bI (inB v0 mtr)), .ref m0]) (by rw [hbe]; rfl) ?_
    refine hm_callV (rest := []) (k := 1) q5_119 q5_121 q1_9 q5_122 q0_17 rfl nm_X8_no rfl hx hb hml hown hts hK hO hS hH hl.1 hm0 (c_X8_no Γ l m0 r mth mpl mga mtr mke mro mck mli mdz mgd mhi mmi mfh msh msm mso msp mrf (inB v0 mtr) 1 f hm0) ⟨Nat.le_of_ble_eq_true rfl, Nat.le_of_ble_eq_true rfl⟩ ⟨Nat.le_of_ble_eq_true rfl, Nat.le_of_ble_eq_true rfl⟩ rfl (Nat.le_of_ble_eq_true rfl) dX8_noTrace_19 (fun v_ f_ H locs hp_ hH hS => ?_)
    obtain ⟨rfl, ef_⟩ := hp_
    refine W.eq (g2 := F0 m 22 ls [.int (bI (!inB v0 mtr))]) rfl ?_
    subst ef_
    exact hm_zret hx hb hr (bI_nar _) hlocks hS hH (⟨rfl, rfl⟩) (Nat.le_of_ble_eq_true rfl) (Nat.le_of_ble_eq_true rfl) dX8_noTrace_22
  · refine lv_iload_n hx hb dX8_noTrace_5 rfl (lv_at hl 1 rfl) ?_
    refine lv_aload_n hx hb dX8_noTrace_6 rfl (lv_at hl 0 rfl) ?_
    refine gf_X8_162 hx hb hts hown hK hH hm0 rfl dX8_noTrace_7 ?_
    refine lv_icmp_ge (tgt := 17) hx hb dX8_noTrace_10 (by decide) (fun c2 => ?_) (fun c2 => ?_)
    · refine lv_iconst (v := 0) hx hb dX8_noTrace_17 (by decide) ?_
      refine lv_iconst (v := 1) hx hb dX8_noTrace_18 (by decide) ?_
      have hbe := (show inB v0 mtr = false by unfold inB; rw [decide_eq_false (Int32.not_lt.mpr c2), Bool.and_false])
      refine W.eq (g2 := F0 m 19 ls [.int 1, .int (bI (inB v0 mtr)), .ref m0]) (by rw [hbe]; rfl) ?_
      refine hm_callV (rest := []) (k := 1) q5_119 q5_121 q1_9 q5_122 q0_17 rfl nm_X8_no rfl hx hb hml hown hts hK hO hS hH hl.1 hm0 (c_X8_no Γ l m0 r mth mpl mga mtr mke mro mck mli mdz mgd mhi mmi mfh msh msm mso msp mrf (inB v0 mtr) 1 f hm0) ⟨Nat.le_of_ble_eq_true rfl, Nat.le_of_ble_eq_true rfl⟩ ⟨Nat.le_of_ble_eq_true rfl, Nat.le_of_ble_eq_true rfl⟩ rfl (Nat.le_of_ble_eq_true rfl) dX8_noTrace_19 (fun v_ f_ H locs hp_ hH hS => ?_)
      obtain ⟨rfl, ef_⟩ := hp_
      refine W.eq (g2 := F0 m 22 ls [.int (bI (!inB v0 mtr))]) rfl ?_
      subst ef_
      exact hm_zret hx hb hr (bI_nar _) hlocks hS hH (⟨rfl, rfl⟩) (Nat.le_of_ble_eq_true rfl) (Nat.le_of_ble_eq_true rfl) dX8_noTrace_22
    · refine lv_iconst (v := 1) hx hb dX8_noTrace_13 (by decide) ?_
      refine lv_goto (tgt := 18) hx hb dX8_noTrace_14 (by decide) ?_
      refine lv_iconst (v := 1) hx hb dX8_noTrace_18 (by decide) ?_
      have hbe := (show inB v0 mtr = true by unfold inB; rw [decide_eq_false c1, decide_eq_true (Int32.not_le.mp c2)]; rfl)
      refine W.eq (g2 := F0 m 19 ls [.int 1, .int (bI (inB v0 mtr)), .ref m0]) (by rw [hbe]; rfl) ?_
      refine hm_callV (rest := []) (k := 1) q5_119 q5_121 q1_9 q5_122 q0_17 rfl nm_X8_no rfl hx hb hml hown hts hK hO hS hH hl.1 hm0 (c_X8_no Γ l m0 r mth mpl mga mtr mke mro mck mli mdz mgd mhi mmi mfh msh msm mso msp mrf (inB v0 mtr) 1 f hm0) ⟨Nat.le_of_ble_eq_true rfl, Nat.le_of_ble_eq_true rfl⟩ ⟨Nat.le_of_ble_eq_true rfl, Nat.le_of_ble_eq_true rfl⟩ rfl (Nat.le_of_ble_eq_true rfl) dX8_noTrace_19 (fun v_ f_ H locs hp_ hH hS => ?_)
      obtain ⟨rfl, ef_⟩ := hp_
      refine W.eq (g2 := F0 m 22 ls [.int (bI (!inB v0 mtr))]) rfl ?_
      subst ef_
      exact hm_zret hx hb hr (bI_nar _) hlocks hS hH (⟨rfl, rfl⟩) (Nat.le_of_ble_eq_true rfl) (Nat.le_of_ble_eq_true rfl) dX8_noTrace_22
set_option maxHeartbeats 4000000 in
set_option maxRecDepth 100000 in
theorem c_X8_score (Γ : Gm) (l : Launch) (m0 : Nat) (r : Nat → Nat) (mth mpl mtr mke mro mck mli mdz mgd mhi mmi mfh msh msm mso : Int32) (msp mrf : Int64) (ng : Nat) (w : Nat → Int32) (v0 : Int32) (f : Hm) (hm0 : f m0 = some (eM r mth mpl ((nI ng)) mtr mke mro mck mli mdz mgd mhi mmi mfh msh msm mso msp mrf)) (hn : ng ≤ 8) (hw : f (r 4) = some (eI Γ 8 w)) : Ct Γ l yX8_score cX8_score 2 (some .int) 3 0 0 [.ref m0, .int v0] f (fun v f' => f' = hm_up f m0 (eM r ((if inB v0 (nI ng) then 0 else 1)) mpl ((nI ng)) mtr mke mro mck mli mdz mgd mhi mmi mfh msh msm mso msp mrf) ∧ ((∃ i, i < ng ∧ v0 = nI i ∧ v = some (.int (w i))) ∨ ((∀ i, i < ng → v0 ≠ nI i) ∧ v = some (.int 0)))) := by
  refine Ct_of (by decide +kernel) (Nat.le_of_ble_eq_true rfl) ?_
  intro p e s m args below meth c hx hb hr hml hown hin hlocks hts hH hO hK ls hl
  have hl : lv_has ls 2 [(0, .ref m0), (1, .int v0)] := hl
  have hS : va_S (gA Γ) s.heap s.heap [] := va_S.rf
  refine lv_aload_n hx hb dX8_score_0 rfl (lv_at hl 0 rfl) ?_
  refine lv_iload_n hx hb dX8_score_1 rfl (lv_at hl 1 rfl) ?_
  refine hm_callV (rest := []) (k := 2) q5_146 q5_148 q1_9 q5_149 q0_19 rfl nm_X8_noGame rfl hx hb hml hown hts hK hO hS hH hl.1 hm0 (c_X8_noGame Γ l m0 r mth mpl (nI ng) mtr mke mro mck mli mdz mgd mhi mmi mfh msh msm mso msp mrf v0 f hm0) ⟨Nat.le_of_ble_eq_true rfl, Nat.le_of_ble_eq_true rfl⟩ ⟨Nat.le_of_ble_eq_true rfl, Nat.le_of_ble_eq_true rfl⟩ rfl (Nat.le_of_ble_eq_true rfl) dX8_score_2 (fun v_ f_ H locs hp_ hH hS => ?_)
  obtain ⟨rfl, ef_⟩ := hp_
  refine W.eq (g2 := F0 m 5 ls [.int (bI (!inB v0 (nI ng)))]) rfl ?_
  have hm2_ : f_ m0 = some (eM r ((if inB v0 (nI ng) then 0 else 1)) mpl ((nI ng)) mtr mke mro mck mli mdz mgd mhi mmi mfh msh msm mso msp mrf) := by rw [ef_]; exact hm_us
  have hw2_ : f_ (r 4) = some (eI Γ 8 w) := by rw [ef_]; exact (hm_un (hm_ne hw hm0 (fun q => by cases q))).trans hw
  refine lv_if_eq (tgt := 12) hx hb dX8_score_5 (by decide) (fun c1 => ?_) (fun c1 => ?_)
  · have hin9 : inB v0 (nI ng) = true := (by cases hq : inB v0 (nI ng) with | true => rfl | false => exact absurd c1 (by rw [hq]; decide))
    have hei := (inB_iff (by omega)).mp hin9
    obtain ⟨i, hi, hvi⟩ := hei
    rw [hvi] at hl
    refine lv_aload_n hx hb dX8_score_12 rfl (lv_at hl 0 rfl) ?_
    refine gf_X8_23 hx hb hts hown hK hH hm2_ rfl dX8_score_13 ?_
    refine lv_iload_n hx hb dX8_score_16 rfl (lv_at hl 1 rfl) ?_
    refine hm_iald hx hb hK hH hw2_ (vp_in_nI (show i < 8 by omega) (by decide)) dX8_score_17 ?_
    refine lv_topi (fun v2 ev2 => ?_)
    replace ev2 : v2 = (w i) := ev2.trans (by show w (nI i).toNatClampNeg = _; rw [nI_clamp (by omega)])
    subst ev2
    subst ef_
    exact hm_iret hx hb hr hlocks hS hH (⟨rfl, Or.inl ⟨i, hi, hvi, rfl⟩⟩) (Nat.le_of_ble_eq_true rfl) (Nat.le_of_ble_eq_true rfl) dX8_score_18
  · refine lv_iconst (v := 0) hx hb dX8_score_8 (by decide) ?_
    refine lv_goto (tgt := 18) hx hb dX8_score_9 (by decide) ?_
    subst ef_
    exact hm_iret hx hb hr hlocks hS hH (⟨rfl, Or.inr ⟨fun i hi q => absurd ((inB_iff (n := ng) (by omega)).mpr ⟨i, hi, q⟩) (fun z => c1 (by rw [z]; rfl)), rfl⟩⟩) (Nat.le_of_ble_eq_true rfl) (Nat.le_of_ble_eq_true rfl) dX8_score_18
set_option maxHeartbeats 4000000 in
set_option maxRecDepth 100000 in
theorem c_X8_pushes (Γ : Gm) (l : Launch) (m0 : Nat) (r : Nat → Nat) (mth mpl mtr mke mro mck mli mdz mgd mhi mmi mfh msh msm mso : Int32) (msp mrf : Int64) (ng : Nat) (w : Nat → Int32) (v0 : Int32) (f : Hm) (hm0 : f m0 = some (eM r mth mpl ((nI ng)) mtr mke mro mck mli mdz mgd mhi mmi mfh msh msm mso msp mrf)) (hn : ng ≤ 8) (hw : f (r 5) = some (eI Γ 8 w)) : Ct Γ l yX8_pushes cX8_pushes 2 (some .int) 3 0 0 [.ref m0, .int v0] f (fun v f' => f' = hm_up f m0 (eM r ((if inB v0 (nI ng) then 0 else 1)) mpl ((nI ng)) mtr mke mro mck mli mdz mgd mhi mmi mfh msh msm mso msp mrf) ∧ ((∃ i, i < ng ∧ v0 = nI i ∧ v = some (.int (w i))) ∨ ((∀ i, i < ng → v0 ≠ nI i) ∧ v = some (.int 0)))) := by
  refine Ct_of (by decide +kernel) (Nat.le_of_ble_eq_true rfl) ?_
  intro p e s m args below meth c hx hb hr hml hown hin hlocks hts hH hO hK ls hl
  have hl : lv_has ls 2 [(0, .ref m0), (1, .int v0)] := hl
  have hS : va_S (gA Γ) s.heap s.heap [] := va_S.rf
  refine lv_aload_n hx hb dX8_pushes_0 rfl (lv_at hl 0 rfl) ?_
  refine lv_iload_n hx hb dX8_pushes_1 rfl (lv_at hl 1 rfl) ?_
  refine hm_callV (rest := []) (k := 2) q5_146 q5_148 q1_9 q5_149 q0_19 rfl nm_X8_noGame rfl hx hb hml hown hts hK hO hS hH hl.1 hm0 (c_X8_noGame Γ l m0 r mth mpl (nI ng) mtr mke mro mck mli mdz mgd mhi mmi mfh msh msm mso msp mrf v0 f hm0) ⟨Nat.le_of_ble_eq_true rfl, Nat.le_of_ble_eq_true rfl⟩ ⟨Nat.le_of_ble_eq_true rfl, Nat.le_of_ble_eq_true rfl⟩ rfl (Nat.le_of_ble_eq_true rfl) dX8_pushes_2 (fun v_ f_ H locs hp_ hH hS => ?_)
  obtain ⟨rfl, ef_⟩ := hp_
  refine W.eq (g2 := F0 m 5 ls [.int (bI (!inB v0 (nI ng)))]) rfl ?_
  have hm2_ : f_ m0 = some (eM r ((if inB v0 (nI ng) then 0 else 1)) mpl ((nI ng)) mtr mke mro mck mli mdz mgd mhi mmi mfh msh msm mso msp mrf) := by rw [ef_]; exact hm_us
  have hw2_ : f_ (r 5) = some (eI Γ 8 w) := by rw [ef_]; exact (hm_un (hm_ne hw hm0 (fun q => by cases q))).trans hw
  refine lv_if_eq (tgt := 12) hx hb dX8_pushes_5 (by decide) (fun c1 => ?_) (fun c1 => ?_)
  · have hin9 : inB v0 (nI ng) = true := (by cases hq : inB v0 (nI ng) with | true => rfl | false => exact absurd c1 (by rw [hq]; decide))
    have hei := (inB_iff (by omega)).mp hin9
    obtain ⟨i, hi, hvi⟩ := hei
    rw [hvi] at hl
    refine lv_aload_n hx hb dX8_pushes_12 rfl (lv_at hl 0 rfl) ?_
    refine gf_X8_26 hx hb hts hown hK hH hm2_ rfl dX8_pushes_13 ?_
    refine lv_iload_n hx hb dX8_pushes_16 rfl (lv_at hl 1 rfl) ?_
    refine hm_iald hx hb hK hH hw2_ (vp_in_nI (show i < 8 by omega) (by decide)) dX8_pushes_17 ?_
    refine lv_topi (fun v2 ev2 => ?_)
    replace ev2 : v2 = (w i) := ev2.trans (by show w (nI i).toNatClampNeg = _; rw [nI_clamp (by omega)])
    subst ev2
    subst ef_
    exact hm_iret hx hb hr hlocks hS hH (⟨rfl, Or.inl ⟨i, hi, hvi, rfl⟩⟩) (Nat.le_of_ble_eq_true rfl) (Nat.le_of_ble_eq_true rfl) dX8_pushes_18
  · refine lv_iconst (v := 0) hx hb dX8_pushes_8 (by decide) ?_
    refine lv_goto (tgt := 18) hx hb dX8_pushes_9 (by decide) ?_
    subst ef_
    exact hm_iret hx hb hr hlocks hS hH (⟨rfl, Or.inr ⟨fun i hi q => absurd ((inB_iff (n := ng) (by omega)).mpr ⟨i, hi, q⟩) (fun z => c1 (by rw [z]; rfl)), rfl⟩⟩) (Nat.le_of_ble_eq_true rfl) (Nat.le_of_ble_eq_true rfl) dX8_pushes_18
set_option maxHeartbeats 4000000 in
set_option maxRecDepth 100000 in
theorem c_X8_follows (Γ : Gm) (l : Launch) (m0 : Nat) (r : Nat → Nat) (mth mpl mtr mke mro mck mli mdz mgd mhi mmi mfh msh msm mso : Int32) (msp mrf : Int64) (ng : Nat) (w : Nat → Int32) (v0 : Int32) (f : Hm) (hm0 : f m0 = some (eM r mth mpl ((nI ng)) mtr mke mro mck mli mdz mgd mhi mmi mfh msh msm mso msp mrf)) (hn : ng ≤ 8) (hw : f (r 7) = some (eI Γ 8 w)) : Ct Γ l yX8_follows cX8_follows 2 (some .int) 3 0 0 [.ref m0, .int v0] f (fun v f' => f' = hm_up f m0 (eM r ((if inB v0 (nI ng) then 0 else 1)) mpl ((nI ng)) mtr mke mro mck mli mdz mgd mhi mmi mfh msh msm mso msp mrf) ∧ ((∃ i, i < ng ∧ v0 = nI i ∧ v = some (.int (w i))) ∨ ((∀ i, i < ng → v0 ≠ nI i) ∧ v = some (.int 0)))) := by
  refine Ct_of (by decide +kernel) (Nat.le_of_ble_eq_true rfl) ?_
  intro p e s m args below meth c hx hb hr hml hown hin hlocks hts hH hO hK ls hl
  have hl : lv_has ls 2 [(0, .ref m0), (1, .int v0)] := hl
  have hS : va_S (gA Γ) s.heap s.heap [] := va_S.rf
  refine lv_aload_n hx hb dX8_follows_0 rfl (lv_at hl 0 rfl) ?_
  refine lv_iload_n hx hb dX8_follows_1 rfl (lv_at hl 1 rfl) ?_
  refine hm_callV (rest := []) (k := 2) q5_146 q5_148 q1_9 q5_149 q0_19 rfl nm_X8_noGame rfl hx hb hml hown hts hK hO hS hH hl.1 hm0 (c_X8_noGame Γ l m0 r mth mpl (nI ng) mtr mke mro mck mli mdz mgd mhi mmi mfh msh msm mso msp mrf v0 f hm0) ⟨Nat.le_of_ble_eq_true rfl, Nat.le_of_ble_eq_true rfl⟩ ⟨Nat.le_of_ble_eq_true rfl, Nat.le_of_ble_eq_true rfl⟩ rfl (Nat.le_of_ble_eq_true rfl) dX8_follows_2 (fun v_ f_ H locs hp_ hH hS => ?_)
  obtain ⟨rfl, ef_⟩ := hp_
  refine W.eq (g2 := F0 m 5 ls [.int (bI (!inB v0 (nI ng)))]) rfl ?_
  have hm2_ : f_ m0 = some (eM r ((if inB v0 (nI ng) then 0 else 1)) mpl ((nI ng)) mtr mke mro mck mli mdz mgd mhi mmi mfh msh msm mso msp mrf) := by rw [ef_]; exact hm_us
  have hw2_ : f_ (r 7) = some (eI Γ 8 w) := by rw [ef_]; exact (hm_un (hm_ne hw hm0 (fun q => by cases q))).trans hw
  refine lv_if_eq (tgt := 12) hx hb dX8_follows_5 (by decide) (fun c1 => ?_) (fun c1 => ?_)
  · have hin9 : inB v0 (nI ng) = true := (by cases hq : inB v0 (nI ng) with | true => rfl | false => exact absurd c1 (by rw [hq]; decide))
    have hei := (inB_iff (by omega)).mp hin9
    obtain ⟨i, hi, hvi⟩ := hei
    rw [hvi] at hl
    refine lv_aload_n hx hb dX8_follows_12 rfl (lv_at hl 0 rfl) ?_
    refine gf_X8_32 hx hb hts hown hK hH hm2_ rfl dX8_follows_13 ?_
    refine lv_iload_n hx hb dX8_follows_16 rfl (lv_at hl 1 rfl) ?_
    refine hm_iald hx hb hK hH hw2_ (vp_in_nI (show i < 8 by omega) (by decide)) dX8_follows_17 ?_
    refine lv_topi (fun v2 ev2 => ?_)
    replace ev2 : v2 = (w i) := ev2.trans (by show w (nI i).toNatClampNeg = _; rw [nI_clamp (by omega)])
    subst ev2
    subst ef_
    exact hm_iret hx hb hr hlocks hS hH (⟨rfl, Or.inl ⟨i, hi, hvi, rfl⟩⟩) (Nat.le_of_ble_eq_true rfl) (Nat.le_of_ble_eq_true rfl) dX8_follows_18
  · refine lv_iconst (v := 0) hx hb dX8_follows_8 (by decide) ?_
    refine lv_goto (tgt := 18) hx hb dX8_follows_9 (by decide) ?_
    subst ef_
    exact hm_iret hx hb hr hlocks hS hH (⟨rfl, Or.inr ⟨fun i hi q => absurd ((inB_iff (n := ng) (by omega)).mpr ⟨i, hi, q⟩) (fun z => c1 (by rw [z]; rfl)), rfl⟩⟩) (Nat.le_of_ble_eq_true rfl) (Nat.le_of_ble_eq_true rfl) dX8_follows_18
set_option maxHeartbeats 4000000 in
set_option maxRecDepth 100000 in
theorem c_X8_playerOf (Γ : Gm) (l : Launch) (m0 : Nat) (r : Nat → Nat) (mth mpl mga mke mro mck mli mdz mgd mhi mmi mfh msh msm mso : Int32) (msp mrf : Int64) (nt : Nat) (w : Nat → Int32) (v0 : Int32) (f : Hm) (hm0 : f m0 = some (eM r mth mpl mga ((nI nt)) mke mro mck mli mdz mgd mhi mmi mfh msh msm mso msp mrf)) (hn : nt ≤ 60) (hw : f (r 12) = some (eI Γ 60 w)) : Ct Γ l yX8_playerOf cX8_playerOf 2 (some .int) 3 0 0 [.ref m0, .int v0] f (fun v f' => f' = hm_up f m0 (eM r ((if inB v0 (nI nt) then 0 else 1)) mpl mga ((nI nt)) mke mro mck mli mdz mgd mhi mmi mfh msh msm mso msp mrf) ∧ ((∃ i, i < nt ∧ v0 = nI i ∧ v = some (.int (w i))) ∨ ((∀ i, i < nt → v0 ≠ nI i) ∧ v = some (.int 0)))) := by
  refine Ct_of (by decide +kernel) (Nat.le_of_ble_eq_true rfl) ?_
  intro p e s m args below meth c hx hb hr hml hown hin hlocks hts hH hO hK ls hl
  have hl : lv_has ls 2 [(0, .ref m0), (1, .int v0)] := hl
  have hS : va_S (gA Γ) s.heap s.heap [] := va_S.rf
  refine lv_aload_n hx hb dX8_playerOf_0 rfl (lv_at hl 0 rfl) ?_
  refine lv_iload_n hx hb dX8_playerOf_1 rfl (lv_at hl 1 rfl) ?_
  refine hm_callV (rest := []) (k := 2) q6_69 q6_71 q1_9 q6_72 q0_35 rfl nm_X8_noTrace rfl hx hb hml hown hts hK hO hS hH hl.1 hm0 (c_X8_noTrace Γ l m0 r mth mpl mga (nI nt) mke mro mck mli mdz mgd mhi mmi mfh msh msm mso msp mrf v0 f hm0) ⟨Nat.le_of_ble_eq_true rfl, Nat.le_of_ble_eq_true rfl⟩ ⟨Nat.le_of_ble_eq_true rfl, Nat.le_of_ble_eq_true rfl⟩ rfl (Nat.le_of_ble_eq_true rfl) dX8_playerOf_2 (fun v_ f_ H locs hp_ hH hS => ?_)
  obtain ⟨rfl, ef_⟩ := hp_
  refine W.eq (g2 := F0 m 5 ls [.int (bI (!inB v0 (nI nt)))]) rfl ?_
  have hm2_ : f_ m0 = some (eM r ((if inB v0 (nI nt) then 0 else 1)) mpl mga ((nI nt)) mke mro mck mli mdz mgd mhi mmi mfh msh msm mso msp mrf) := by rw [ef_]; exact hm_us
  have hw2_ : f_ (r 12) = some (eI Γ 60 w) := by rw [ef_]; exact (hm_un (hm_ne hw hm0 (fun q => by cases q))).trans hw
  refine lv_if_eq (tgt := 12) hx hb dX8_playerOf_5 (by decide) (fun c1 => ?_) (fun c1 => ?_)
  · have hin9 : inB v0 (nI nt) = true := (by cases hq : inB v0 (nI nt) with | true => rfl | false => exact absurd c1 (by rw [hq]; decide))
    have hei := (inB_iff (by omega)).mp hin9
    obtain ⟨i, hi, hvi⟩ := hei
    rw [hvi] at hl
    refine lv_aload_n hx hb dX8_playerOf_12 rfl (lv_at hl 0 rfl) ?_
    refine gf_X8_48 hx hb hts hown hK hH hm2_ rfl dX8_playerOf_13 ?_
    refine lv_iload_n hx hb dX8_playerOf_16 rfl (lv_at hl 1 rfl) ?_
    refine hm_iald hx hb hK hH hw2_ (vp_in_nI (show i < 60 by omega) (by decide)) dX8_playerOf_17 ?_
    refine lv_topi (fun v2 ev2 => ?_)
    replace ev2 : v2 = (w i) := ev2.trans (by show w (nI i).toNatClampNeg = _; rw [nI_clamp (by omega)])
    subst ev2
    subst ef_
    exact hm_iret hx hb hr hlocks hS hH (⟨rfl, Or.inl ⟨i, hi, hvi, rfl⟩⟩) (Nat.le_of_ble_eq_true rfl) (Nat.le_of_ble_eq_true rfl) dX8_playerOf_18
  · refine lv_iconst (v := 0) hx hb dX8_playerOf_8 (by decide) ?_
    refine lv_goto (tgt := 18) hx hb dX8_playerOf_9 (by decide) ?_
    subst ef_
    exact hm_iret hx hb hr hlocks hS hH (⟨rfl, Or.inr ⟨fun i hi q => absurd ((inB_iff (n := nt) (by omega)).mpr ⟨i, hi, q⟩) (fun z => c1 (by rw [z]; rfl)), rfl⟩⟩) (Nat.le_of_ble_eq_true rfl) (Nat.le_of_ble_eq_true rfl) dX8_playerOf_18
set_option maxHeartbeats 4000000 in
set_option maxRecDepth 100000 in
theorem c_X8_pushOf (Γ : Gm) (l : Launch) (m0 : Nat) (r : Nat → Nat) (mth mpl mga mke mro mck mli mdz mgd mhi mmi mfh msh msm mso : Int32) (msp mrf : Int64) (nt : Nat) (w : Nat → Int32) (v0 : Int32) (f : Hm) (hm0 : f m0 = some (eM r mth mpl mga ((nI nt)) mke mro mck mli mdz mgd mhi mmi mfh msh msm mso msp mrf)) (hn : nt ≤ 60) (hw : f (r 13) = some (eI Γ 60 w)) : Ct Γ l yX8_pushOf cX8_pushOf 2 (some .int) 3 0 0 [.ref m0, .int v0] f (fun v f' => f' = hm_up f m0 (eM r ((if inB v0 (nI nt) then 0 else 1)) mpl mga ((nI nt)) mke mro mck mli mdz mgd mhi mmi mfh msh msm mso msp mrf) ∧ ((∃ i, i < nt ∧ v0 = nI i ∧ v = some (.int (w i))) ∨ ((∀ i, i < nt → v0 ≠ nI i) ∧ v = some (.int 0)))) := by
  refine Ct_of (by decide +kernel) (Nat.le_of_ble_eq_true rfl) ?_
  intro p e s m args below meth c hx hb hr hml hown hin hlocks hts hH hO hK ls hl
  have hl : lv_has ls 2 [(0, .ref m0), (1, .int v0)] := hl
  have hS : va_S (gA Γ) s.heap s.heap [] := va_S.rf
  refine lv_aload_n hx hb dX8_pushOf_0 rfl (lv_at hl 0 rfl) ?_
  refine lv_iload_n hx hb dX8_pushOf_1 rfl (lv_at hl 1 rfl) ?_
  refine hm_callV (rest := []) (k := 2) q6_69 q6_71 q1_9 q6_72 q0_35 rfl nm_X8_noTrace rfl hx hb hml hown hts hK hO hS hH hl.1 hm0 (c_X8_noTrace Γ l m0 r mth mpl mga (nI nt) mke mro mck mli mdz mgd mhi mmi mfh msh msm mso msp mrf v0 f hm0) ⟨Nat.le_of_ble_eq_true rfl, Nat.le_of_ble_eq_true rfl⟩ ⟨Nat.le_of_ble_eq_true rfl, Nat.le_of_ble_eq_true rfl⟩ rfl (Nat.le_of_ble_eq_true rfl) dX8_pushOf_2 (fun v_ f_ H locs hp_ hH hS => ?_)
  obtain ⟨rfl, ef_⟩ := hp_
  refine W.eq (g2 := F0 m 5 ls [.int (bI (!inB v0 (nI nt)))]) rfl ?_
  have hm2_ : f_ m0 = some (eM r ((if inB v0 (nI nt) then 0 else 1)) mpl mga ((nI nt)) mke mro mck mli mdz mgd mhi mmi mfh msh msm mso msp mrf) := by rw [ef_]; exact hm_us
  have hw2_ : f_ (r 13) = some (eI Γ 60 w) := by rw [ef_]; exact (hm_un (hm_ne hw hm0 (fun q => by cases q))).trans hw
  refine lv_if_eq (tgt := 12) hx hb dX8_pushOf_5 (by decide) (fun c1 => ?_) (fun c1 => ?_)
  · have hin9 : inB v0 (nI nt) = true := (by cases hq : inB v0 (nI nt) with | true => rfl | false => exact absurd c1 (by rw [hq]; decide))
    have hei := (inB_iff (by omega)).mp hin9
    obtain ⟨i, hi, hvi⟩ := hei
    rw [hvi] at hl
    refine lv_aload_n hx hb dX8_pushOf_12 rfl (lv_at hl 0 rfl) ?_
    refine gf_X8_51 hx hb hts hown hK hH hm2_ rfl dX8_pushOf_13 ?_
    refine lv_iload_n hx hb dX8_pushOf_16 rfl (lv_at hl 1 rfl) ?_
    refine hm_iald hx hb hK hH hw2_ (vp_in_nI (show i < 60 by omega) (by decide)) dX8_pushOf_17 ?_
    refine lv_topi (fun v2 ev2 => ?_)
    replace ev2 : v2 = (w i) := ev2.trans (by show w (nI i).toNatClampNeg = _; rw [nI_clamp (by omega)])
    subst ev2
    subst ef_
    exact hm_iret hx hb hr hlocks hS hH (⟨rfl, Or.inl ⟨i, hi, hvi, rfl⟩⟩) (Nat.le_of_ble_eq_true rfl) (Nat.le_of_ble_eq_true rfl) dX8_pushOf_18
  · refine lv_iconst (v := 0) hx hb dX8_pushOf_8 (by decide) ?_
    refine lv_goto (tgt := 18) hx hb dX8_pushOf_9 (by decide) ?_
    subst ef_
    exact hm_iret hx hb hr hlocks hS hH (⟨rfl, Or.inr ⟨fun i hi q => absurd ((inB_iff (n := nt) (by omega)).mpr ⟨i, hi, q⟩) (fun z => c1 (by rw [z]; rfl)), rfl⟩⟩) (Nat.le_of_ble_eq_true rfl) (Nat.le_of_ble_eq_true rfl) dX8_pushOf_18
set_option maxHeartbeats 4000000 in
set_option maxRecDepth 100000 in
theorem c_X8_isVoid (Γ : Gm) (l : Launch) (m0 : Nat) (r : Nat → Nat) (mth mpl mtr mke mro mck mli mdz mgd mhi mmi mfh msh msm mso : Int32) (msp mrf : Int64) (ng : Nat) (w : Nat → Int32) (v0 : Int32) (f : Hm) (hm0 : f m0 = some (eM r mth mpl ((nI ng)) mtr mke mro mck mli mdz mgd mhi mmi mfh msh msm mso msp mrf)) (hn : ng ≤ 8) (hw : f (r 9) = some (eZ Γ 8 w)) : Ct Γ l yX8_isVoid cX8_isVoid 2 (some .boolean) 3 0 0 [.ref m0, .int v0] f (fun v f' => f' = hm_up f m0 (eM r ((if inB v0 (nI ng) then 0 else 1)) mpl ((nI ng)) mtr mke mro mck mli mdz mgd mhi mmi mfh msh msm mso msp mrf) ∧ ((∃ i, i < ng ∧ v0 = nI i ∧ v = some (.int (bI (decide (w i ≠ 0))))) ∨ ((∀ i, i < ng → v0 ≠ nI i) ∧ v = some (.int 0)))) := by
  refine Ct_of (by decide +kernel) (Nat.le_of_ble_eq_true rfl) ?_
  intro p e s m args below meth c hx hb hr hml hown hin hlocks hts hH hO hK ls hl
  have hl : lv_has ls 2 [(0, .ref m0), (1, .int v0)] := hl
  have hS : va_S (gA Γ) s.heap s.heap [] := va_S.rf
  refine lv_aload_n hx hb dX8_isVoid_0 rfl (lv_at hl 0 rfl) ?_
  refine lv_iload_n hx hb dX8_isVoid_1 rfl (lv_at hl 1 rfl) ?_
  refine hm_callV (rest := []) (k := 2) q5_146 q5_148 q1_9 q5_149 q0_19 rfl nm_X8_noGame rfl hx hb hml hown hts hK hO hS hH hl.1 hm0 (c_X8_noGame Γ l m0 r mth mpl (nI ng) mtr mke mro mck mli mdz mgd mhi mmi mfh msh msm mso msp mrf v0 f hm0) ⟨Nat.le_of_ble_eq_true rfl, Nat.le_of_ble_eq_true rfl⟩ ⟨Nat.le_of_ble_eq_true rfl, Nat.le_of_ble_eq_true rfl⟩ rfl (Nat.le_of_ble_eq_true rfl) dX8_isVoid_2 (fun v_ f_ H locs hp_ hH hS => ?_)
  obtain ⟨rfl, ef_⟩ := hp_
  refine W.eq (g2 := F0 m 5 ls [.int (bI (!inB v0 (nI ng)))]) rfl ?_
  have hm2_ : f_ m0 = some (eM r ((if inB v0 (nI ng) then 0 else 1)) mpl ((nI ng)) mtr mke mro mck mli mdz mgd mhi mmi mfh msh msm mso msp mrf) := by rw [ef_]; exact hm_us
  have hw2_ : f_ (r 9) = some (eZ Γ 8 w) := by rw [ef_]; exact (hm_un (hm_ne hw hm0 (fun q => by cases q))).trans hw
  refine lv_if_ne (tgt := 21) hx hb dX8_isVoid_5 (by decide) (fun c1 => ?_) (fun c1 => ?_)
  · refine lv_iconst (v := 0) hx hb dX8_isVoid_21 (by decide) ?_
    subst ef_
    exact hm_zret hx hb hr rfl hlocks hS hH (⟨rfl, Or.inr ⟨fun i hi q => absurd ((inB_iff (n := ng) (by omega)).mpr ⟨i, hi, q⟩) (fun z => c1 (by rw [z]; rfl)), rfl⟩⟩) (Nat.le_of_ble_eq_true rfl) (Nat.le_of_ble_eq_true rfl) dX8_isVoid_22
  · have hin9 : inB v0 (nI ng) = true := (by cases hq : inB v0 (nI ng) with | true => rfl | false => exact absurd c1 (by rw [hq]; decide))
    have hei := (inB_iff (by omega)).mp hin9
    obtain ⟨i, hi, hvi⟩ := hei
    rw [hvi] at hl
    refine lv_aload_n hx hb dX8_isVoid_8 rfl (lv_at hl 0 rfl) ?_
    refine gf_X8_38 hx hb hts hown hK hH hm2_ rfl dX8_isVoid_9 ?_
    refine lv_iload_n hx hb dX8_isVoid_12 rfl (lv_at hl 1 rfl) ?_
    refine hm_zald hx hb hK hH hw2_ (vp_in_nI (show i < 8 by omega) (by decide)) dX8_isVoid_13 ?_
    refine lv_topi (fun v2 ev2 => ?_)
    replace ev2 : v2 = (w i) := ev2.trans (by show w (nI i).toNatClampNeg = _; rw [nI_clamp (by omega)])
    subst ev2
    refine lv_if_eq (tgt := 21) hx hb dX8_isVoid_14 (by decide) (fun c3 => ?_) (fun c3 => ?_)
    · refine lv_iconst (v := 0) hx hb dX8_isVoid_21 (by decide) ?_
      subst ef_
      exact hm_zret hx hb hr rfl hlocks hS hH (⟨rfl, Or.inl ⟨i, hi, hvi, by rw [decide_eq_false (fun q => q c3)]; rfl⟩⟩) (Nat.le_of_ble_eq_true rfl) (Nat.le_of_ble_eq_true rfl) dX8_isVoid_22
    · refine lv_iconst (v := 1) hx hb dX8_isVoid_17 (by decide) ?_
      refine lv_goto (tgt := 22) hx hb dX8_isVoid_18 (by decide) ?_
      subst ef_
      exact hm_zret hx hb hr rfl hlocks hS hH (⟨rfl, Or.inl ⟨i, hi, hvi, by rw [decide_eq_true c3]; rfl⟩⟩) (Nat.le_of_ble_eq_true rfl) (Nat.le_of_ble_eq_true rfl) dX8_isVoid_22
