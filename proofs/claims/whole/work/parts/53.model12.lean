/-! the model: depths, limits -/
def inR (v lo hi : Int32) : Bool := decide (lo ≤ v) && decide (v ≤ hi)
set_option maxHeartbeats 4000000 in
set_option maxRecDepth 100000 in
theorem c_X8_noDepth (Γ : Gm) (l : Launch) (m0 : Nat) (r : Nat → Nat) (mth mpl mga mtr mke mro mck mli mdz mgd mhi mmi mfh msh msm mso : Int32) (msp mrf : Int64) (v0 d0 : Int32) (f : Hm) (hm0 : f m0 = some (eM r mth mpl mga mtr mke mro mck mli mdz mgd mhi mmi mfh msh msm mso msp mrf)) : Ct Γ l yX8_noDepth cX8_noDepth 3 (some .boolean) 3 0 0 [.ref m0, .int v0, .int d0] f (fun v f' => v = some (.int (bI (!(inB v0 mga && inR d0 1 4)))) ∧ f' = hm_up f m0 (eM r ((if inB v0 mga then (if inR d0 1 4 then 0 else 2) else 1)) mpl mga mtr mke mro mck mli mdz mgd mhi mmi mfh msh msm mso msp mrf)) := by
  refine Ct_of (by decide +kernel) (Nat.le_of_ble_eq_true rfl) ?_
  intro p e s m args below meth c hx hb hr hml hown hin hlocks hts hH hO hK ls hl
  have hl : lv_has ls 3 [(0, .ref m0), (1, .int v0), (2, .int d0)] := hl
  have hS : va_S (gA Γ) s.heap s.heap [] := va_S.rf
  refine lv_aload_n hx hb dX8_noDepth_0 rfl (lv_at hl 0 rfl) ?_
  refine lv_iload_n hx hb dX8_noDepth_1 rfl (lv_at hl 1 rfl) ?_
  refine hm_callV (rest := []) (k := 2) q5_146 q5_148 q1_9 q5_149 q0_19 rfl nm_X8_noGame rfl hx hb hml hown hts hK hO hS hH hl.1 hm0 (c_X8_noGame Γ l m0 r mth mpl mga mtr mke mro mck mli mdz mgd mhi mmi mfh msh msm mso msp mrf v0 f hm0) ⟨Nat.le_of_ble_eq_true rfl, Nat.le_of_ble_eq_true rfl⟩ ⟨Nat.le_of_ble_eq_true rfl, Nat.le_of_ble_eq_true rfl⟩ rfl (Nat.le_of_ble_eq_true rfl) dX8_noDepth_2 (fun v_ fg_ H locs hp_ hH hS => ?_)
  obtain ⟨rfl, efg_⟩ := hp_
  refine W.eq (g2 := F0 m 5 ls [.int (bI (!inB v0 mga))]) rfl ?_
  have hmg_ : fg_ m0 = some (eM r ((if inB v0 mga then 0 else 1)) mpl mga mtr mke mro mck mli mdz mgd mhi mmi mfh msh msm mso msp mrf) := by rw [efg_]; exact hm_us
  refine lv_if_ne (tgt := 31) hx hb dX8_noDepth_5 (by decide) (fun c1 => ?_) (fun c1 => ?_)
  · refine lv_iconst (v := 1) hx hb dX8_noDepth_31 (by decide) ?_
    refine lv_goto (tgt := 36) hx hb dX8_noDepth_32 (by decide) ?_
    subst efg_
    exact hm_zret hx hb hr rfl hlocks hS hH (⟨by have hb : inB v0 mga = false := by { cases hq : inB v0 mga with | false => rfl | true => exact absurd (show bI (!inB v0 mga) = 0 by rw [hq]; rfl) c1 }; rw [hb]; rfl, by have hb : inB v0 mga = false := by { cases hq : inB v0 mga with | false => rfl | true => exact absurd (show bI (!inB v0 mga) = 0 by rw [hq]; rfl) c1 }; rw [hb]; rfl⟩) (Nat.le_of_ble_eq_true rfl) (Nat.le_of_ble_eq_true rfl) dX8_noDepth_36
  · refine lv_aload_n hx hb dX8_noDepth_8 rfl (lv_at hl 0 rfl) ?_
    refine lv_iload_n hx hb dX8_noDepth_9 rfl (lv_at hl 2 rfl) ?_
    refine lv_iconst (v := 1) hx hb dX8_noDepth_10 (by decide) ?_
    refine lv_icmp_lt (tgt := 23) hx hb dX8_noDepth_11 (by decide) (fun c2 => ?_) (fun c2 => ?_)
    · refine lv_iconst (v := 0) hx hb dX8_noDepth_23 (by decide) ?_
      refine lv_iconst (v := 2) hx hb dX8_noDepth_24 (by decide) ?_
      have hbe := (show inR d0 1 4 = false by unfold inR; rw [decide_eq_false (Int32.not_le.mpr c2)]; rfl)
      refine W.eq (g2 := F0 m 25 ls [.int 2, .int (bI (inR d0 1 4)), .ref m0]) (by rw [hbe]; rfl) ?_
      refine hm_callV (rest := []) (k := 1) q5_119 q5_121 q1_9 q5_122 q0_17 rfl nm_X8_no rfl hx hb hml hown hts hK hO hS hH hl.1 hmg_ (c_X8_no Γ l m0 r ((if inB v0 mga then 0 else 1)) mpl mga mtr mke mro mck mli mdz mgd mhi mmi mfh msh msm mso msp mrf (inR d0 1 4) 2 fg_ hmg_) ⟨Nat.le_of_ble_eq_true rfl, Nat.le_of_ble_eq_true rfl⟩ ⟨Nat.le_of_ble_eq_true rfl, Nat.le_of_ble_eq_true rfl⟩ rfl (Nat.le_of_ble_eq_true rfl) dX8_noDepth_25 (fun v_ fn_ H locs hp_ hH hS => ?_)
      obtain ⟨rfl, efn_⟩ := hp_
      refine W.eq (g2 := F0 m 28 ls [.int (bI (!(inR d0 1 4)))]) rfl ?_
      have hmfn_ : fn_ m0 = some (eM r ((if inR d0 1 4 then 0 else 2)) mpl mga mtr mke mro mck mli mdz mgd mhi mmi mfh msh msm mso msp mrf) := by rw [efn_]; exact hm_us
      refine lv_if_eq (tgt := 35) hx hb dX8_noDepth_28 (by decide) (fun c3 => absurd c3 ((by rw [hbe]; decide))) (fun _ => ?_)
      refine lv_iconst (v := 1) hx hb dX8_noDepth_31 (by decide) ?_
      refine lv_goto (tgt := 36) hx hb dX8_noDepth_32 (by decide) ?_
      subst efn_
      subst efg_
      exact hm_zret hx hb hr rfl hlocks hS hH (⟨by have hb : inB v0 mga = true := by { cases hq : inB v0 mga with | true => rfl | false => exact absurd (bI_0.mp c1) (by rw [hq]; decide) }; rw [hb, hbe]; rfl, by have hb : inB v0 mga = true := by { cases hq : inB v0 mga with | true => rfl | false => exact absurd (bI_0.mp c1) (by rw [hq]; decide) }; simp only [hm_uu]; rw [hb]; rfl⟩) (Nat.le_of_ble_eq_true rfl) (Nat.le_of_ble_eq_true rfl) dX8_noDepth_36
    · refine lv_iload_n hx hb dX8_noDepth_14 rfl (lv_at hl 2 rfl) ?_
      refine lv_iconst (v := 4) hx hb dX8_noDepth_15 (by decide) ?_
      refine lv_icmp_gt (tgt := 23) hx hb dX8_noDepth_16 (by decide) (fun c4 => ?_) (fun c4 => ?_)
      · refine lv_iconst (v := 0) hx hb dX8_noDepth_23 (by decide) ?_
        refine lv_iconst (v := 2) hx hb dX8_noDepth_24 (by decide) ?_
        have hbe := (show inR d0 1 4 = false by unfold inR; rw [decide_eq_false (Int32.not_le.mpr c4), Bool.and_false])
        refine W.eq (g2 := F0 m 25 ls [.int 2, .int (bI (inR d0 1 4)), .ref m0]) (by rw [hbe]; rfl) ?_
        refine hm_callV (rest := []) (k := 1) q5_119 q5_121 q1_9 q5_122 q0_17 rfl nm_X8_no rfl hx hb hml hown hts hK hO hS hH hl.1 hmg_ (c_X8_no Γ l m0 r ((if inB v0 mga then 0 else 1)) mpl mga mtr mke mro mck mli mdz mgd mhi mmi mfh msh msm mso msp mrf (inR d0 1 4) 2 fg_ hmg_) ⟨Nat.le_of_ble_eq_true rfl, Nat.le_of_ble_eq_true rfl⟩ ⟨Nat.le_of_ble_eq_true rfl, Nat.le_of_ble_eq_true rfl⟩ rfl (Nat.le_of_ble_eq_true rfl) dX8_noDepth_25 (fun v_ fn_ H locs hp_ hH hS => ?_)
        obtain ⟨rfl, efn_⟩ := hp_
        refine W.eq (g2 := F0 m 28 ls [.int (bI (!(inR d0 1 4)))]) rfl ?_
        have hmfn_ : fn_ m0 = some (eM r ((if inR d0 1 4 then 0 else 2)) mpl mga mtr mke mro mck mli mdz mgd mhi mmi mfh msh msm mso msp mrf) := by rw [efn_]; exact hm_us
        refine lv_if_eq (tgt := 35) hx hb dX8_noDepth_28 (by decide) (fun c5 => absurd c5 ((by rw [hbe]; decide))) (fun _ => ?_)
        refine lv_iconst (v := 1) hx hb dX8_noDepth_31 (by decide) ?_
        refine lv_goto (tgt := 36) hx hb dX8_noDepth_32 (by decide) ?_
        subst efn_
        subst efg_
        exact hm_zret hx hb hr rfl hlocks hS hH (⟨by have hb : inB v0 mga = true := by { cases hq : inB v0 mga with | true => rfl | false => exact absurd (bI_0.mp c1) (by rw [hq]; decide) }; rw [hb, hbe]; rfl, by have hb : inB v0 mga = true := by { cases hq : inB v0 mga with | true => rfl | false => exact absurd (bI_0.mp c1) (by rw [hq]; decide) }; simp only [hm_uu]; rw [hb]; rfl⟩) (Nat.le_of_ble_eq_true rfl) (Nat.le_of_ble_eq_true rfl) dX8_noDepth_36
      · refine lv_iconst (v := 1) hx hb dX8_noDepth_19 (by decide) ?_
        refine lv_goto (tgt := 24) hx hb dX8_noDepth_20 (by decide) ?_
        refine lv_iconst (v := 2) hx hb dX8_noDepth_24 (by decide) ?_
        have hbe := (show inR d0 1 4 = true by unfold inR; rw [decide_eq_true (Int32.not_lt.mp c2), decide_eq_true (Int32.not_lt.mp c4)]; rfl)
        refine W.eq (g2 := F0 m 25 ls [.int 2, .int (bI (inR d0 1 4)), .ref m0]) (by rw [hbe]; rfl) ?_
        refine hm_callV (rest := []) (k := 1) q5_119 q5_121 q1_9 q5_122 q0_17 rfl nm_X8_no rfl hx hb hml hown hts hK hO hS hH hl.1 hmg_ (c_X8_no Γ l m0 r ((if inB v0 mga then 0 else 1)) mpl mga mtr mke mro mck mli mdz mgd mhi mmi mfh msh msm mso msp mrf (inR d0 1 4) 2 fg_ hmg_) ⟨Nat.le_of_ble_eq_true rfl, Nat.le_of_ble_eq_true rfl⟩ ⟨Nat.le_of_ble_eq_true rfl, Nat.le_of_ble_eq_true rfl⟩ rfl (Nat.le_of_ble_eq_true rfl) dX8_noDepth_25 (fun v_ fn_ H locs hp_ hH hS => ?_)
        obtain ⟨rfl, efn_⟩ := hp_
        refine W.eq (g2 := F0 m 28 ls [.int (bI (!(inR d0 1 4)))]) rfl ?_
        have hmfn_ : fn_ m0 = some (eM r ((if inR d0 1 4 then 0 else 2)) mpl mga mtr mke mro mck mli mdz mgd mhi mmi mfh msh msm mso msp mrf) := by rw [efn_]; exact hm_us
        refine lv_if_eq (tgt := 35) hx hb dX8_noDepth_28 (by decide) (fun _ => ?_) (fun c6 => absurd ((by rw [hbe]; rfl)) c6)
        refine lv_iconst (v := 0) hx hb dX8_noDepth_35 (by decide) ?_
        subst efn_
        subst efg_
        exact hm_zret hx hb hr rfl hlocks hS hH (⟨by have hb : inB v0 mga = true := by { cases hq : inB v0 mga with | true => rfl | false => exact absurd (bI_0.mp c1) (by rw [hq]; decide) }; rw [hb, hbe]; rfl, by have hb : inB v0 mga = true := by { cases hq : inB v0 mga with | true => rfl | false => exact absurd (bI_0.mp c1) (by rw [hq]; decide) }; simp only [hm_uu]; rw [hb]; rfl⟩) (Nat.le_of_ble_eq_true rfl) (Nat.le_of_ble_eq_true rfl) dX8_noDepth_36
set_option maxHeartbeats 4000000 in
set_option maxRecDepth 100000 in
theorem c_X8_setLimit (Γ : Gm) (l : Launch) (m0 : Nat) (r : Nat → Nat) (mth mpl mga mtr mke mro mck mli mdz mgd mhi mmi mfh msh msm mso : Int32) (msp mrf : Int64) (v0 : Int32) (f : Hm) (hm0 : f m0 = some (eM r mth mpl mga mtr mke mro mck mli mdz mgd mhi mmi mfh msh msm mso msp mrf)) : Ct Γ l yX8_setLimit cX8_setLimit 3 (some .int) 2 0 0 [.ref m0, .int v0] f (fun v f' => (inR v0 1 9 = true ∧ v = some (.int mli) ∧ f' = hm_up f m0 (eM r 0 mpl mga mtr mke mro mck v0 mdz mgd mhi mmi mfh msh msm mso msp mrf)) ∨ (inR v0 1 9 = false ∧ v = some (.int 0) ∧ f' = hm_up f m0 (eM r 1 mpl mga mtr mke mro mck mli mdz mgd mhi mmi mfh msh msm mso msp mrf))) := by
  refine Ct_of (by decide +kernel) (Nat.le_of_ble_eq_true rfl) ?_
  intro p e s m args below meth c hx hb hr hml hown hin hlocks hts hH hO hK ls hl
  have hl : lv_has ls 3 [(0, .ref m0), (1, .int v0)] := hl
  have hS : va_S (gA Γ) s.heap s.heap [] := va_S.rf
  refine lv_aload_n hx hb dX8_setLimit_0 rfl (lv_at hl 0 rfl) ?_
  refine lv_iload_n hx hb dX8_setLimit_1 rfl (lv_at hl 1 rfl) ?_
  refine lv_iconst (v := 1) hx hb dX8_setLimit_2 (by decide) ?_
  refine lv_icmp_lt (tgt := 16) hx hb dX8_setLimit_3 (by decide) (fun c1 => ?_) (fun c1 => ?_)
  · refine lv_iconst (v := 0) hx hb dX8_setLimit_16 (by decide) ?_
    refine lv_iconst (v := 1) hx hb dX8_setLimit_17 (by decide) ?_
    have hbe := (show inR v0 1 9 = false by unfold inR; rw [decide_eq_false (Int32.not_le.mpr c1)]; rfl)
    refine W.eq (g2 := F0 m 18 ls [.int 1, .int (bI (inR v0 1 9)), .ref m0]) (by rw [hbe]; rfl) ?_
    refine hm_callV (rest := []) (k := 1) q5_119 q5_121 q1_9 q5_122 q0_17 rfl nm_X8_no rfl hx hb hml hown hts hK hO hS hH hl.1 hm0 (c_X8_no Γ l m0 r mth mpl mga mtr mke mro mck mli mdz mgd mhi mmi mfh msh msm mso msp mrf (inR v0 1 9) 1 f hm0) ⟨Nat.le_of_ble_eq_true rfl, Nat.le_of_ble_eq_true rfl⟩ ⟨Nat.le_of_ble_eq_true rfl, Nat.le_of_ble_eq_true rfl⟩ rfl (Nat.le_of_ble_eq_true rfl) dX8_setLimit_18 (fun v_ fn_ H locs hp_ hH hS => ?_)
    obtain ⟨rfl, efn_⟩ := hp_
    refine W.eq (g2 := F0 m 21 ls [.int (bI (!(inR v0 1 9)))]) rfl ?_
    have hmfn_ : fn_ m0 = some (eM r ((if inR v0 1 9 then 0 else 1)) mpl mga mtr mke mro mck mli mdz mgd mhi mmi mfh msh msm mso msp mrf) := by rw [efn_]; exact hm_us
    refine lv_if_eq (tgt := 26) hx hb dX8_setLimit_21 (by decide) (fun c2 => absurd c2 ((by rw [hbe]; decide))) (fun _ => ?_)
    refine lv_iconst (v := 0) hx hb dX8_setLimit_24 (by decide) ?_
    subst efn_
    exact hm_iret hx hb hr hlocks hS hH (Or.inr ⟨hbe, rfl, by rw [hbe]; rfl⟩) (Nat.le_of_ble_eq_true rfl) (Nat.le_of_ble_eq_true rfl) dX8_setLimit_25
  · refine lv_iload_n hx hb dX8_setLimit_6 rfl (lv_at hl 1 rfl) ?_
    refine lv_bipush (v := 9) hx hb dX8_setLimit_7 (by decide) ?_
    refine lv_icmp_gt (tgt := 16) hx hb dX8_setLimit_9 (by decide) (fun c3 => ?_) (fun c3 => ?_)
    · refine lv_iconst (v := 0) hx hb dX8_setLimit_16 (by decide) ?_
      refine lv_iconst (v := 1) hx hb dX8_setLimit_17 (by decide) ?_
      have hbe := (show inR v0 1 9 = false by unfold inR; rw [decide_eq_false (Int32.not_le.mpr c3), Bool.and_false])
      refine W.eq (g2 := F0 m 18 ls [.int 1, .int (bI (inR v0 1 9)), .ref m0]) (by rw [hbe]; rfl) ?_
      refine hm_callV (rest := []) (k := 1) q5_119 q5_121 q1_9 q5_122 q0_17 rfl nm_X8_no rfl hx hb hml hown hts hK hO hS hH hl.1 hm0 (c_X8_no Γ l m0 r mth mpl mga mtr mke mro mck mli mdz mgd mhi mmi mfh msh msm mso msp mrf (inR v0 1 9) 1 f hm0) ⟨Nat.le_of_ble_eq_true rfl, Nat.le_of_ble_eq_true rfl⟩ ⟨Nat.le_of_ble_eq_true rfl, Nat.le_of_ble_eq_true rfl⟩ rfl (Nat.le_of_ble_eq_true rfl) dX8_setLimit_18 (fun v_ fn_ H locs hp_ hH hS => ?_)
      obtain ⟨rfl, efn_⟩ := hp_
      refine W.eq (g2 := F0 m 21 ls [.int (bI (!(inR v0 1 9)))]) rfl ?_
      have hmfn_ : fn_ m0 = some (eM r ((if inR v0 1 9 then 0 else 1)) mpl mga mtr mke mro mck mli mdz mgd mhi mmi mfh msh msm mso msp mrf) := by rw [efn_]; exact hm_us
      refine lv_if_eq (tgt := 26) hx hb dX8_setLimit_21 (by decide) (fun c4 => absurd c4 ((by rw [hbe]; decide))) (fun _ => ?_)
      refine lv_iconst (v := 0) hx hb dX8_setLimit_24 (by decide) ?_
      subst efn_
      exact hm_iret hx hb hr hlocks hS hH (Or.inr ⟨hbe, rfl, by rw [hbe]; rfl⟩) (Nat.le_of_ble_eq_true rfl) (Nat.le_of_ble_eq_true rfl) dX8_setLimit_25
    · refine lv_iconst (v := 1) hx hb dX8_setLimit_12 (by decide) ?_
      refine lv_goto (tgt := 17) hx hb dX8_setLimit_13 (by decide) ?_
      refine lv_iconst (v := 1) hx hb dX8_setLimit_17 (by decide) ?_
      have hbe := (show inR v0 1 9 = true by unfold inR; rw [decide_eq_true (Int32.not_lt.mp c1), decide_eq_true (Int32.not_lt.mp c3)]; rfl)
      refine W.eq (g2 := F0 m 18 ls [.int 1, .int (bI (inR v0 1 9)), .ref m0]) (by rw [hbe]; rfl) ?_
      refine hm_callV (rest := []) (k := 1) q5_119 q5_121 q1_9 q5_122 q0_17 rfl nm_X8_no rfl hx hb hml hown hts hK hO hS hH hl.1 hm0 (c_X8_no Γ l m0 r mth mpl mga mtr mke mro mck mli mdz mgd mhi mmi mfh msh msm mso msp mrf (inR v0 1 9) 1 f hm0) ⟨Nat.le_of_ble_eq_true rfl, Nat.le_of_ble_eq_true rfl⟩ ⟨Nat.le_of_ble_eq_true rfl, Nat.le_of_ble_eq_true rfl⟩ rfl (Nat.le_of_ble_eq_true rfl) dX8_setLimit_18 (fun v_ fn_ H locs hp_ hH hS => ?_)
      obtain ⟨rfl, efn_⟩ := hp_
      refine W.eq (g2 := F0 m 21 ls [.int (bI (!(inR v0 1 9)))]) rfl ?_
      have hmfn_ : fn_ m0 = some (eM r ((if inR v0 1 9 then 0 else 1)) mpl mga mtr mke mro mck mli mdz mgd mhi mmi mfh msh msm mso msp mrf) := by rw [efn_]; exact hm_us
      refine lv_if_eq (tgt := 26) hx hb dX8_setLimit_21 (by decide) (fun _ => ?_) (fun c5 => absurd ((by rw [hbe]; rfl)) c5)
      refine lv_aload_n hx hb dX8_setLimit_26 rfl (lv_at hl 0 rfl) ?_
      refine gf_X8_100 hx hb hts hown hK hH hmfn_ rfl dX8_setLimit_27 ?_
      refine lv_istore_n (lv' := [(2, .int mli), (0, .ref m0), (1, .int v0)]) hx hb dX8_setLimit_30 rfl hl (by decide) rfl (fun ls hl => ?_)
      refine lv_aload_n hx hb dX8_setLimit_31 rfl (lv_at hl 1 rfl) ?_
      refine lv_iload_n hx hb dX8_setLimit_32 rfl (lv_at hl 2 rfl) ?_
      refine pf_X8_100 hx hb hts hown hK hO hS hH hmfn_ rfl (Nat.le_of_ble_eq_true rfl) rfl dX8_setLimit_33 (fun H locs hH hS => ?_)
      obtain ⟨f6, ef6⟩ : ∃ zz_, zz_ = hm_up fn_ m0 (eM r ((if inR v0 1 9 then 0 else 1)) mpl mga mtr mke mro mck v0 mdz mgd mhi mmi mfh msh msm mso msp mrf) := ⟨_, rfl⟩
      have hH : hm_H Γ f6 H := by rw [ef6]; exact hH
      have h7 : f6 m0 = some (eM r ((if inR v0 1 9 then 0 else 1)) mpl mga mtr mke mro mck v0 mdz mgd mhi mmi mfh msh msm mso msp mrf) := by rw [ef6]; exact hm_us
      refine lv_iload_n hx hb dX8_setLimit_36 rfl (lv_at hl 0 rfl) ?_
      subst ef6
      subst efn_
      exact hm_iret hx hb hr hlocks hS hH (Or.inl ⟨hbe, rfl, by simp only [hm_uu]; rw [hbe]; rfl⟩) (Nat.le_of_ble_eq_true rfl) (Nat.le_of_ble_eq_true rfl) dX8_setLimit_37
