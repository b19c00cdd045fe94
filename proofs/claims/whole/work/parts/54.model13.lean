/-! the model: money -/
set_option maxHeartbeats 4000000 in
set_option maxRecDepth 100000 in
theorem c_X8_money (Γ : Gm) (l : Launch) (m0 : Nat) (r : Nat → Nat) (mth mga mtr mke mro mck mli mdz mgd mhi mmi mfh msh msm mso : Int32) (msp mrf : Int64) (np : Nat) (w : Nat → Int32) (v0 : Int32) (f : Hm) (hm0 : f m0 = some (eM r mth ((nI np)) mga mtr mke mro mck mli mdz mgd mhi mmi mfh msh msm mso msp mrf)) (hn : np ≤ 4) (hw : f (r 0) = some (eI Γ 4 w)) : Ct Γ l yX8_money cX8_money 2 (some .int) 2 0 0 [.ref m0, .int v0] f (fun v f' => f' = hm_up f m0 (eM r ((if inB v0 (nI np) then 0 else 1)) ((nI np)) mga mtr mke mro mck mli mdz mgd mhi mmi mfh msh msm mso msp mrf) ∧ ((∃ i, i < np ∧ v0 = nI i ∧ v = some (.int (w i))) ∨ ((∀ i, i < np → v0 ≠ nI i) ∧ v = some (.int 0)))) := by
  refine Ct_of (by decide +kernel) (Nat.le_of_ble_eq_true rfl) ?_
  intro p e s m args below meth c hx hb hr hml hown hin hlocks hts hH hO hK ls hl
  have hl : lv_has ls 2 [(0, .ref m0), (1, .int v0)] := hl
  have hS : va_S (gA Γ) s.heap s.heap [] := va_S.rf
  refine lv_aload_n hx hb dX8_money_0 rfl (lv_at hl 0 rfl) ?_
  refine lv_iload_n hx hb dX8_money_1 rfl (lv_at hl 1 rfl) ?_
  refine lv_if_lt (tgt := 17) hx hb dX8_money_2 (by decide) (fun c1 => ?_) (fun c1 => ?_)
  · refine lv_iconst (v := 0) hx hb dX8_money_17 (by decide) ?_
    refine lv_iconst (v := 1) hx hb dX8_money_18 (by decide) ?_
    have hbe := (show inB v0 (nI np) = false by unfold inB; rw [decide_eq_true c1]; rfl)
    refine W.eq (g2 := F0 m 19 ls [.int 1, .int (bI (inB v0 (nI np))), .ref m0]) (by rw [hbe]; rfl) ?_
    refine hm_callV (rest := []) (k := 1) q5_119 q5_121 q1_9 q5_122 q0_17 rfl nm_X8_no rfl hx hb hml hown hts hK hO hS hH hl.1 hm0 (c_X8_no Γ l m0 r mth (nI np) mga mtr mke mro mck mli mdz mgd mhi mmi mfh msh msm mso msp mrf (inB v0 (nI np)) 1 f hm0) ⟨Nat.le_of_ble_eq_true rfl, Nat.le_of_ble_eq_true rfl⟩ ⟨Nat.le_of_ble_eq_true rfl, Nat.le_of_ble_eq_true rfl⟩ rfl (Nat.le_of_ble_eq_true rfl) dX8_money_19 (fun v_ f_ H locs hp_ hH hS => ?_)
    obtain ⟨rfl, ef_⟩ := hp_
    refine W.eq (g2 := F0 m 22 ls [.int (bI (!inB v0 (nI np)))]) rfl ?_
    have hm2_ : f_ m0 = some (eM r ((if inB v0 (nI np) then 0 else 1)) ((nI np)) mga mtr mke mro mck mli mdz mgd mhi mmi mfh msh msm mso msp mrf) := by rw [ef_]; exact hm_us
    have hw2_ : f_ (r 0) = some (eI Γ 4 w) := by rw [ef_]; exact (hm_un (hm_ne hw hm0 (fun q => by cases q))).trans hw
    refine lv_if_eq (tgt := 29) hx hb dX8_money_22 (by decide) (fun c2 => absurd c2 ((by rw [hbe]; decide))) (fun _ => ?_)
    refine lv_iconst (v := 0) hx hb dX8_money_25 (by decide) ?_
    refine lv_goto (tgt := 35) hx hb dX8_money_26 (by decide) ?_
    subst ef_
    exact hm_iret hx hb hr hlocks hS hH (⟨rfl, Or.inr ⟨fun i hi q => absurd ((inB_iff (n := np) (by omega)).mpr ⟨i, hi, q⟩) (by rw [hbe]; decide), rfl⟩⟩) (Nat.le_of_ble_eq_true rfl) (Nat.le_of_ble_eq_true rfl) dX8_money_35
  · refine lv_iload_n hx hb dX8_money_5 rfl (lv_at hl 1 rfl) ?_
    refine lv_aload_n hx hb dX8_money_6 rfl (lv_at hl 0 rfl) ?_
    refine gf_X8_148 hx hb hts hown hK hH hm0 rfl dX8_money_7 ?_
    refine lv_icmp_ge (tgt := 17) hx hb dX8_money_10 (by decide) (fun c3 => ?_) (fun c3 => ?_)
    · refine lv_iconst (v := 0) hx hb dX8_money_17 (by decide) ?_
      refine lv_iconst (v := 1) hx hb dX8_money_18 (by decide) ?_
      have hbe := (show inB v0 (nI np) = false by unfold inB; rw [decide_eq_false (Int32.not_lt.mpr c3), Bool.and_false])
      refine W.eq (g2 := F0 m 19 ls [.int 1, .int (bI (inB v0 (nI np))), .ref m0]) (by rw [hbe]; rfl) ?_
      refine hm_callV (rest := []) (k := 1) q5_119 q5_121 q1_9 q5_122 q0_17 rfl nm_X8_no rfl hx hb hml hown hts hK hO hS hH hl.1 hm0 (c_X8_no Γ l m0 r mth (nI np) mga mtr mke mro mck mli mdz mgd mhi mmi mfh msh msm mso msp mrf (inB v0 (nI np)) 1 f hm0) ⟨Nat.le_of_ble_eq_true rfl, Nat.le_of_ble_eq_true rfl⟩ ⟨Nat.le_of_ble_eq_true rfl, Nat.le_of_ble_eq_true rfl⟩ rfl (Nat.le_of_ble_eq_true rfl) dX8_money_19 (fun v_ f_ H locs hp_ hH hS => ?_)
      obtain ⟨rfl, ef_⟩ := hp_
      refine W.eq (g2 := F0 m 22 ls [.int (bI (!inB v0 (nI np)))]) rfl ?_
      have hm2_ : f_ m0 = some (eM r ((if inB v0 (nI np) then 0 else 1)) ((nI np)) mga mtr mke mro mck mli mdz mgd mhi mmi mfh msh msm mso msp mrf) := by rw [ef_]; exact hm_us
      have hw2_ : f_ (r 0) = some (eI Γ 4 w) := by rw [ef_]; exact (hm_un (hm_ne hw hm0 (fun q => by cases q))).trans hw
      refine lv_if_eq (tgt := 29) hx hb dX8_money_22 (by decide) (fun c4 => absurd c4 ((by rw [hbe]; decide))) (fun _ => ?_)
      refine lv_iconst (v := 0) hx hb dX8_money_25 (by decide) ?_
      refine lv_goto (tgt := 35) hx hb dX8_money_26 (by decide) ?_
      subst ef_
      exact hm_iret hx hb hr hlocks hS hH (⟨rfl, Or.inr ⟨fun i hi q => absurd ((inB_iff (n := np) (by omega)).mpr ⟨i, hi, q⟩) (by rw [hbe]; decide), rfl⟩⟩) (Nat.le_of_ble_eq_true rfl) (Nat.le_of_ble_eq_true rfl) dX8_money_35
    · refine lv_iconst (v := 1) hx hb dX8_money_13 (by decide) ?_
      refine lv_goto (tgt := 18) hx hb dX8_money_14 (by decide) ?_
      refine lv_iconst (v := 1) hx hb dX8_money_18 (by decide) ?_
      have hbe := (show inB v0 (nI np) = true by unfold inB; rw [decide_eq_false c1, decide_eq_true (Int32.not_le.mp c3)]; rfl)
      refine W.eq (g2 := F0 m 19 ls [.int 1, .int (bI (inB v0 (nI np))), .ref m0]) (by rw [hbe]; rfl) ?_
      refine hm_callV (rest := []) (k := 1) q5_119 q5_121 q1_9 q5_122 q0_17 rfl nm_X8_no rfl hx hb hml hown hts hK hO hS hH hl.1 hm0 (c_X8_no Γ l m0 r mth (nI np) mga mtr mke mro mck mli mdz mgd mhi mmi mfh msh msm mso msp mrf (inB v0 (nI np)) 1 f hm0) ⟨Nat.le_of_ble_eq_true rfl, Nat.le_of_ble_eq_true rfl⟩ ⟨Nat.le_of_ble_eq_true rfl, Nat.le_of_ble_eq_true rfl⟩ rfl (Nat.le_of_ble_eq_true rfl) dX8_money_19 (fun v_ f_ H locs hp_ hH hS => ?_)
      obtain ⟨rfl, ef_⟩ := hp_
      refine W.eq (g2 := F0 m 22 ls [.int (bI (!inB v0 (nI np)))]) rfl ?_
      have hm2_ : f_ m0 = some (eM r ((if inB v0 (nI np) then 0 else 1)) ((nI np)) mga mtr mke mro mck mli mdz mgd mhi mmi mfh msh msm mso msp mrf) := by rw [ef_]; exact hm_us
      have hw2_ : f_ (r 0) = some (eI Γ 4 w) := by rw [ef_]; exact (hm_un (hm_ne hw hm0 (fun q => by cases q))).trans hw
      refine lv_if_eq (tgt := 29) hx hb dX8_money_22 (by decide) (fun _ => ?_) (fun c5 => absurd ((by rw [hbe]; rfl)) c5)
      obtain ⟨i, hi, hvi⟩ := (inB_iff (by omega)).mp hbe
      rw [hvi] at hl
      refine lv_aload_n hx hb dX8_money_29 rfl (lv_at hl 0 rfl) ?_
      refine gf_X8_7 hx hb hts hown hK hH hm2_ rfl dX8_money_30 ?_
      refine lv_iload_n hx hb dX8_money_33 rfl (lv_at hl 1 rfl) ?_
      refine hm_iald hx hb hK hH hw2_ (vp_in_nI (show i < 4 by omega) (by decide)) dX8_money_34 ?_
      refine lv_topi (fun v6 ev6 => ?_)
      replace ev6 : v6 = (w i) := ev6.trans (by show w (nI i).toNatClampNeg = _; rw [nI_clamp (by omega)])
      subst ev6
      subst ef_
      exact hm_iret hx hb hr hlocks hS hH (⟨rfl, Or.inl ⟨i, hi, hvi, rfl⟩⟩) (Nat.le_of_ble_eq_true rfl) (Nat.le_of_ble_eq_true rfl) dX8_money_35
