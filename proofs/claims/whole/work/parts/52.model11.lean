/-! the model: its plain answers -/
set_option maxHeartbeats 4000000 in
set_option maxRecDepth 100000 in
theorem c_X8_thrown (Γ : Gm) (l : Launch) (m0 : Nat) (r : Nat → Nat) (mth mpl mga mtr mke mro mck mli mdz mgd mhi mmi mfh msh msm mso : Int32) (msp mrf : Int64) (f : Hm) (hm0 : f m0 = some (eM r mth mpl mga mtr mke mro mck mli mdz mgd mhi mmi mfh msh msm mso msp mrf)) : Ct Γ l yX8_thrown cX8_thrown 1 (some .int) 1 0 0 [.ref m0] f (pI mth f) := by
  refine Ct_of (by decide +kernel) (Nat.le_of_ble_eq_true rfl) ?_
  intro p e s m args below meth c hx hb hr hml hown hin hlocks hts hH hO hK ls hl
  have hl : lv_has ls 1 [(0, .ref m0)] := hl
  have hS : va_S (gA Γ) s.heap s.heap [] := va_S.rf
  refine lv_aload_n hx hb dX8_thrown_0 rfl (lv_at hl 0 rfl) ?_
  refine gf_X8_103 hx hb hts hown hK hH hm0 rfl dX8_thrown_1 ?_
  exact hm_iret hx hb hr hlocks hS hH (pI_of (rfl)) (Nat.le_of_ble_eq_true rfl) (Nat.le_of_ble_eq_true rfl) dX8_thrown_4
set_option maxHeartbeats 4000000 in
set_option maxRecDepth 100000 in
theorem c_X8_traces (Γ : Gm) (l : Launch) (m0 : Nat) (r : Nat → Nat) (mth mpl mga mtr mke mro mck mli mdz mgd mhi mmi mfh msh msm mso : Int32) (msp mrf : Int64) (f : Hm) (hm0 : f m0 = some (eM r mth mpl mga mtr mke mro mck mli mdz mgd mhi mmi mfh msh msm mso msp mrf)) : Ct Γ l yX8_traces cX8_traces 1 (some .int) 1 0 0 [.ref m0] f (pI mtr f) := by
  refine Ct_of (by decide +kernel) (Nat.le_of_ble_eq_true rfl) ?_
  intro p e s m args below meth c hx hb hr hml hown hin hlocks hts hH hO hK ls hl
  have hl : lv_has ls 1 [(0, .ref m0)] := hl
  have hS : va_S (gA Γ) s.heap s.heap [] := va_S.rf
  refine lv_aload_n hx hb dX8_traces_0 rfl (lv_at hl 0 rfl) ?_
  refine gf_X8_162 hx hb hts hown hK hH hm0 rfl dX8_traces_1 ?_
  exact hm_iret hx hb hr hlocks hS hH (pI_of (rfl)) (Nat.le_of_ble_eq_true rfl) (Nat.le_of_ble_eq_true rfl) dX8_traces_4
set_option maxHeartbeats 4000000 in
set_option maxRecDepth 100000 in
theorem c_X8_entries (Γ : Gm) (l : Launch) (m0 : Nat) (r : Nat → Nat) (mth mpl mga mtr mke mro mck mli mdz mgd mhi mmi mfh msh msm mso : Int32) (msp mrf : Int64) (f : Hm) (hm0 : f m0 = some (eM r mth mpl mga mtr mke mro mck mli mdz mgd mhi mmi mfh msh msm mso msp mrf)) : Ct Γ l yX8_entries cX8_entries 1 (some .int) 1 0 0 [.ref m0] f (pI mke f) := by
  refine Ct_of (by decide +kernel) (Nat.le_of_ble_eq_true rfl) ?_
  intro p e s m args below meth c hx hb hr hml hown hin hlocks hts hH hO hK ls hl
  have hl : lv_has ls 1 [(0, .ref m0)] := hl
  have hS : va_S (gA Γ) s.heap s.heap [] := va_S.rf
  refine lv_aload_n hx hb dX8_entries_0 rfl (lv_at hl 0 rfl) ?_
  refine gf_X8_169 hx hb hts hown hK hH hm0 rfl dX8_entries_1 ?_
  exact hm_iret hx hb hr hlocks hS hH (pI_of (rfl)) (Nat.le_of_ble_eq_true rfl) (Nat.le_of_ble_eq_true rfl) dX8_entries_4
set_option maxHeartbeats 4000000 in
set_option maxRecDepth 100000 in
theorem c_X8_refunds (Γ : Gm) (l : Launch) (m0 : Nat) (r : Nat → Nat) (mth mpl mga mtr mke mro mck mli mdz mgd mhi mmi mfh msh msm mso : Int32) (msp mrf : Int64) (f : Hm) (hm0 : f m0 = some (eM r mth mpl mga mtr mke mro mck mli mdz mgd mhi mmi mfh msh msm mso msp mrf)) : Ct Γ l yX8_refunds cX8_refunds 1 (some .long) 1 0 0 [.ref m0] f (pJ mrf f) := by
  refine Ct_of (by decide +kernel) (Nat.le_of_ble_eq_true rfl) ?_
  intro p e s m args below meth c hx hb hr hml hown hin hlocks hts hH hO hK ls hl
  have hl : lv_has ls 1 [(0, .ref m0)] := hl
  have hS : va_S (gA Γ) s.heap s.heap [] := va_S.rf
  refine lv_aload_n hx hb dX8_refunds_0 rfl (lv_at hl 0 rfl) ?_
  refine gf_X8_243 hx hb hts hown hK hH hm0 rfl dX8_refunds_1 ?_
  exact hm_lret hx hb hr hlocks hS hH (⟨rfl, rfl⟩) (Nat.le_of_ble_eq_true rfl) (Nat.le_of_ble_eq_true rfl) dX8_refunds_4
set_option maxHeartbeats 4000000 in
set_option maxRecDepth 100000 in
theorem c_X8_isSound (Γ : Gm) (l : Launch) (m0 : Nat) (f : Hm) : Ct Γ l yX8_isSound cX8_isSound 1 (some .boolean) 1 0 0 [.ref m0] f (pI 1 f) := by
  refine Ct_of (by decide +kernel) (Nat.le_of_ble_eq_true rfl) ?_
  intro p e s m args below meth c hx hb hr hml hown hin hlocks hts hH hO hK ls hl
  have hl : lv_has ls 1 [(0, .ref m0)] := hl
  have hS : va_S (gA Γ) s.heap s.heap [] := va_S.rf
  refine lv_iconst (v := 1) hx hb dX8_isSound_0 (by decide) ?_
  exact hm_zret hx hb hr rfl hlocks hS hH (pI_of (rfl)) (Nat.le_of_ble_eq_true rfl) (Nat.le_of_ble_eq_true rfl) dX8_isSound_1
set_option maxHeartbeats 4000000 in
set_option maxRecDepth 100000 in
theorem c_X8_refuse (Γ : Gm) (l : Launch) (m0 : Nat) (r : Nat → Nat) (mth mpl mga mtr mke mro mck mli mdz mgd mhi mmi mfh msh msm mso : Int32) (msp mrf : Int64) (k0 : Int32) (f : Hm) (hm0 : f m0 = some (eM r mth mpl mga mtr mke mro mck mli mdz mgd mhi mmi mfh msh msm mso msp mrf)) : Ct Γ l yX8_refuse cX8_refuse 2 (some .int) 1 0 0 [.ref m0, .int k0] f (fun v f' => v = some (.int 0) ∧ f' = hm_up f m0 (eM r k0 mpl mga mtr mke mro mck mli mdz mgd mhi mmi mfh msh msm mso msp mrf)) := by
  refine Ct_of (by decide +kernel) (Nat.le_of_ble_eq_true rfl) ?_
  intro p e s m args below meth c hx hb hr hml hown hin hlocks hts hH hO hK ls hl
  have hl : lv_has ls 2 [(0, .ref m0), (1, .int k0)] := hl
  have hS : va_S (gA Γ) s.heap s.heap [] := va_S.rf
  refine lv_aload_n hx hb dX8_refuse_0 rfl (lv_at hl 0 rfl) ?_
  refine lv_iload_n hx hb dX8_refuse_1 rfl (lv_at hl 1 rfl) ?_
  refine pf_X8_103 hx hb hts hown hK hO hS hH hm0 rfl (Nat.le_of_ble_eq_true rfl) rfl dX8_refuse_2 (fun H locs hH hS => ?_)
  obtain ⟨f1, ef1⟩ : ∃ zz_, zz_ = hm_up f m0 (eM r k0 mpl mga mtr mke mro mck mli mdz mgd mhi mmi mfh msh msm mso msp mrf) := ⟨_, rfl⟩
  have hH : hm_H Γ f1 H := by rw [ef1]; exact hH
  have h2 : f1 m0 = some (eM r k0 mpl mga mtr mke mro mck mli mdz mgd mhi mmi mfh msh msm mso msp mrf) := by rw [ef1]; exact hm_us
  refine lv_iconst (v := 0) hx hb dX8_refuse_5 (by decide) ?_
  subst ef1
  exact hm_iret hx hb hr hlocks hS hH (⟨rfl, rfl⟩) (Nat.le_of_ble_eq_true rfl) (Nat.le_of_ble_eq_true rfl) dX8_refuse_6
set_option maxHeartbeats 4000000 in
set_option maxRecDepth 100000 in
theorem c_X8_pinned (Γ : Gm) (l : Launch) (m0 : Nat) (r : Nat → Nat) (mth mpl mga mtr mro mck mli mdz mgd mhi mmi mfh msh msm mso : Int32) (msp mrf : Int64) (kp : Nat) (K : Nat → EV) (f : Hm) (hm0 : f m0 = some (eM r mth mpl mga mtr ((nI kp)) mro mck mli mdz mgd mhi mmi mfh msh msm mso msp mrf)) (hKA : KA Γ f r K) (hkp : kp ≤ 64) : Ct Γ l yX8_pinned cX8_pinned 1 (some .int) 2 0 0 [.ref m0] f (pI (nI (cntP (pnB K) kp)) f) := by
  refine Ct_of (by decide +kernel) (Nat.le_of_ble_eq_true rfl) ?_
  intro p e s m args below meth c hx hb hr hml hown hin hlocks hts hH hO hK ls hl
  have hl : lv_has ls 1 [(0, .ref m0)] := hl
  have hS : va_S (gA Γ) s.heap s.heap [] := va_S.rf
  refine lv_aload_n hx hb dX8_pinned_0 rfl (lv_at hl 0 rfl) ?_
  refine hm_callV (rest := []) (k := 1) q6_9 q6_11 q1_9 q6_12 q0_31 rfl nm_X8_pins rfl hx hb hml hown hts hK hO hS hH hl.1 hm0 (c_X8_pins Γ l m0 r mth mpl mga mtr mro mck mli mdz mgd mhi mmi mfh msh msm mso msp mrf kp K f hm0 hKA hkp) ⟨Nat.le_of_ble_eq_true rfl, Nat.le_of_ble_eq_true rfl⟩ ⟨Nat.le_of_ble_eq_true rfl, Nat.le_of_ble_eq_true rfl⟩ rfl (Nat.le_of_ble_eq_true rfl) dX8_pinned_1 (fun v_ f_ H locs hp_ hH hS => ?_)
  obtain ⟨rfl, ef_⟩ := hp_
  rw [ef_] at hH
  clear ef_
  refine W.eq (g2 := F0 m 4 ls [.int (nI (cntP (pnB K) kp))]) rfl ?_
  exact hm_iret hx hb hr hlocks hS hH (pI_of (rfl)) (Nat.le_of_ble_eq_true rfl) (Nat.le_of_ble_eq_true rfl) dX8_pinned_4
