/-! the model: pins -/
theorem b_one : ∀ i, i < 32 → bt 1 i = decide (i = 0) := by decide +kernel
theorem m_pin1 (p : Int32) {g : Nat} (hg : g < 32) : (p >>> (nI g &&& 31)) &&& 1 = bI (bt p g) := by
  apply b_ext
  intro i hi
  rw [b_and, b_sshr g hg p hi, b_one i hi]
  by_cases q : i = 0
  · subst q
    rw [if_pos (by omega), Nat.add_zero]
    cases bt p g with
    | true => show (true && _) = bt 1 0; rw [b_one 0 (by decide)]; rfl
    | false => show (false && _) = bt 0 0; rw [b_0]; rfl
  · rw [decide_eq_false q, Bool.and_false]
    cases bt p g with
    | true => show _ = bt 1 i; rw [b_one i hi, decide_eq_false q]
    | false => show _ = bt 0 i; rw [b_0]
theorem m_pin2 (p : Int32) {g : Nat} (hg : g < 32) : decide (p &&& (1 <<< (nI g &&& 31)) ≠ 0) = bt p g := by
  have hb : ∀ i, i < 32 → bt (p &&& (1 <<< (nI g &&& 31))) i = (bt p i && decide (i = g)) := fun i hi => by
    rw [b_and, b_shl g hg 1 hi]
    by_cases q : g ≤ i
    · rw [decide_eq_true q, Bool.true_and, b_one _ (by omega)]
      congr 1
      exact decide_eq_decide.mpr ⟨fun z => by omega, fun z => by omega⟩
    · rw [decide_eq_false q, decide_eq_false (show ¬ i = g by omega)]
      rfl
  cases hq : bt p g with
  | true =>
    refine decide_eq_true (fun z => ?_)
    have := hb g hg
    rw [z, b_0, hq, decide_eq_true rfl] at this
    cases this
  | false =>
    refine decide_eq_false (fun z => z (b_ext (fun i hi => ?_)))
    rw [hb i hi, b_0]
    by_cases q : i = g
    · rw [q, hq]; rfl
    · rw [decide_eq_false q, Bool.and_false]
theorem cnt_bit {P : Nat → Bool} {i : Nat} : nI (cntP P i) + bI (P i) = nI (cntP P (i + 1)) := by
  show _ = nI (cntP P i + (if P i = true then 1 else 0))
  cases P i with
  | true => exact nI_1 _
  | false => exact Int32.add_zero _
set_option maxHeartbeats 4000000 in
set_option maxRecDepth 100000 in
theorem c_X8_pins (Γ : Gm) (l : Launch) (m0 : Nat) (r : Nat → Nat) (mth mpl mga mtr mro mck mli mdz mgd mhi mmi mfh msh msm mso : Int32) (msp mrf : Int64) (kp : Nat) (K : Nat → EV) (f : Hm) (hm0 : f m0 = some (eM r mth mpl mga mtr ((nI kp)) mro mck mli mdz mgd mhi mmi mfh msh msm mso msp mrf)) (hKA : KA Γ f r K) (hkp : kp ≤ 64) : Ct Γ l yX8_pins cX8_pins 3 (some .int) 1 0 0 [.ref m0] f (pI (nI (cntP (pnB K) kp)) f) := by
  refine Ct_of (by decide +kernel) (Nat.le_of_ble_eq_true rfl) ?_
  intro p e s m args below meth c hx hb hr hml hown hin hlocks hts hH hO hK ls hl
  have hl : lv_has ls 3 [(0, .ref m0)] := hl
  have hS : va_S (gA Γ) s.heap s.heap [] := va_S.rf
  obtain ⟨hk0, hk1, hk2, hk3, hk4, hk5, hk6⟩ := id hKA
  have loop : ∀ (k_ i : Nat), i + k_ = kp → ∀ (H : Heap) (locs : List Loc), hm_H Γ f H → va_S (gA Γ) s.heap H locs → ∀ ls : Array Slot, lv_has ls 3 [(2, .int (nI i)), (1, .int (nI (cntP (pnB K) i))), (0, .ref m0)] → W p l e (rmk 1 0 0) s m args below meth c H locs 0 0 (MQ below (hm_Q Γ (pI (nI (cntP (pnB K) kp)) f)) args s 0 0 (gA Γ)) (F0 m 4 ls []) := by
    intro k_
    induction k_ with
      | zero =>
        intro i hin_ H locs hH hS ls hl
        have hi : i = kp := by omega
        subst hi
        refine lv_iload_n hx hb dX8_pins_4 rfl (lv_at hl 0 rfl) ?_
        refine lv_aload_n hx hb dX8_pins_5 rfl (lv_at hl 2 rfl) ?_
        refine gf_X8_169 hx hb hts hown hK hH hm0 rfl dX8_pins_6 ?_
        refine lv_icmp_ge (tgt := 35) hx hb dX8_pins_9 (by decide) (fun _ => ?_) (fun c1 => absurd (nI_le (Nat.le_refl _) (by omega)) c1)
        refine lv_iload_n hx hb dX8_pins_35 rfl (lv_at hl 1 rfl) ?_
        exact hm_iret hx hb hr hlocks hS hH (pI_of (rfl)) (Nat.le_of_ble_eq_true rfl) (Nat.le_of_ble_eq_true rfl) dX8_pins_36
      | succ k_ ih =>
        intro i hin_ H locs hH hS ls hl
        have hi : i < kp := by omega
        refine lv_iload_n hx hb dX8_pins_4 rfl (lv_at hl 0 rfl) ?_
        refine lv_aload_n hx hb dX8_pins_5 rfl (lv_at hl 2 rfl) ?_
        refine gf_X8_169 hx hb hts hown hK hH hm0 rfl dX8_pins_6 ?_
        refine lv_icmp_ge (tgt := 35) hx hb dX8_pins_9 (by decide) (fun c1 => absurd c1 (nI_ge hi (by omega))) (fun _ => ?_)
        refine lv_iload_n hx hb dX8_pins_12 rfl (lv_at hl 1 rfl) ?_
        refine lv_aload_n hx hb dX8_pins_13 rfl (lv_at hl 2 rfl) ?_
        refine gf_X8_72 hx hb hts hown hK hH hm0 rfl dX8_pins_14 ?_
        refine lv_iload_n hx hb dX8_pins_17 rfl (lv_at hl 0 rfl) ?_
        refine hm_iald hx hb hK hH hk6 (vp_in_nI (show i < 64 by omega) (by decide)) dX8_pins_18 ?_
        refine lv_topi (fun v2 ev2 => ?_)
        replace ev2 : v2 = (K i).2.2.2.2.2.2 := ev2.trans (by show (K (nI i).toNatClampNeg).2.2.2.2.2.2 = _; rw [nI_clamp (by omega)])
        subst ev2
        refine lv_if_eq (tgt := 26) hx hb dX8_pins_19 (by decide) (fun c3 => ?_) (fun c3 => ?_)
        · refine lv_iconst (v := 0) hx hb dX8_pins_26 (by decide) ?_
          refine lv_iadd hx hb dX8_pins_27 ?_
          refine lv_topi (fun v4 ev4 => ?_)
          replace ev4 : v4 = nI (cntP (pnB K) i + 0) := ev4.trans (nI_add _ 0)
          subst ev4
          refine lv_istore_n (lv' := [(1, .int (nI (cntP (pnB K) i + 0))), (2, .int (nI i)), (0, .ref m0)]) hx hb dX8_pins_28 rfl hl (by decide) rfl (fun ls hl => ?_)
          refine lv_iinc (v := (nI (i + 1))) (lv' := [(2, .int ((nI (i + 1)))), (1, .int (nI (cntP (pnB K) i + 0))), (0, .ref m0)]) hx hb dX8_pins_29 hl (k := 1) rfl (nI_1 i) (by decide) rfl (fun ls hl => ?_)
          refine lv_goto (tgt := 4) hx hb dX8_pins_32 (by decide) ?_
          have hb : pnB K i = false := decide_eq_false (fun q => q c3)
          have hs : cntP (pnB K) (i + 1) = cntP (pnB K) i + 0 := by show _ + (if _ then _ else _) = _; rw [hb]; rfl
          rw [← hs] at hl
          exact ih (i + 1) (by omega) H locs hH hS ls (lv_sub hl [0, 1, 2] rfl)
        · refine lv_iconst (v := 1) hx hb dX8_pins_22 (by decide) ?_
          refine lv_goto (tgt := 27) hx hb dX8_pins_23 (by decide) ?_
          refine lv_iadd hx hb dX8_pins_27 ?_
          refine lv_topi (fun v5 ev5 => ?_)
          replace ev5 : v5 = nI (cntP (pnB K) i + 1) := ev5.trans (nI_add _ 1)
          subst ev5
          refine lv_istore_n (lv' := [(1, .int (nI (cntP (pnB K) i + 1))), (2, .int (nI i)), (0, .ref m0)]) hx hb dX8_pins_28 rfl hl (by decide) rfl (fun ls hl => ?_)
          refine lv_iinc (v := (nI (i + 1))) (lv' := [(2, .int ((nI (i + 1)))), (1, .int (nI (cntP (pnB K) i + 1))), (0, .ref m0)]) hx hb dX8_pins_29 hl (k := 1) rfl (nI_1 i) (by decide) rfl (fun ls hl => ?_)
          refine lv_goto (tgt := 4) hx hb dX8_pins_32 (by decide) ?_
          have hb : pnB K i = true := decide_eq_true c3
          have hs : cntP (pnB K) (i + 1) = cntP (pnB K) i + 1 := by show _ + (if _ then _ else _) = _; rw [hb]; rfl
          rw [← hs] at hl
          exact ih (i + 1) (by omega) H locs hH hS ls (lv_sub hl [0, 1, 2] rfl)
  refine lv_iconst (v := 0) hx hb dX8_pins_0 (by decide) ?_
  refine lv_istore_n (lv' := [(1, .int 0), (0, .ref m0)]) hx hb dX8_pins_1 rfl hl (by decide) rfl (fun ls hl => ?_)
  refine lv_iconst (v := 0) hx hb dX8_pins_2 (by decide) ?_
  refine lv_istore_n (lv' := [(2, .int 0), (1, .int 0), (0, .ref m0)]) hx hb dX8_pins_3 rfl hl (by decide) rfl (fun ls hl => ?_)
  exact loop kp 0 (by omega) s.heap [] hH hS ls (lv_sub hl [0, 1, 2] rfl)
set_option maxHeartbeats 4000000 in
set_option maxRecDepth 100000 in
theorem c_X8_pinsOf (Γ : Gm) (l : Launch) (m0 : Nat) (r : Nat → Nat) (mth mpl mga mtr mro mck mli mdz mgd mhi mmi mfh msh msm mso : Int32) (msp mrf : Int64) (kp : Nat) (K : Nat → EV) (g0 : Nat) (f : Hm) (hm0 : f m0 = some (eM r mth mpl mga mtr ((nI kp)) mro mck mli mdz mgd mhi mmi mfh msh msm mso msp mrf)) (hKA : KA Γ f r K) (hkp : kp ≤ 64) (hg0 : g0 < 8) : Ct Γ l yX8_pinsOf cX8_pinsOf 4 (some .int) 1 0 0 [.ref m0, .int (nI g0)] f (pI (nI (cntP (fun j => bt (K j).2.2.2.2.2.2 g0) kp)) f) := by
  refine Ct_of (by decide +kernel) (Nat.le_of_ble_eq_true rfl) ?_
  intro p e s m args below meth c hx hb hr hml hown hin hlocks hts hH hO hK ls hl
  have hl : lv_has ls 4 [(0, .ref m0), (1, .int (nI g0))] := hl
  have hS : va_S (gA Γ) s.heap s.heap [] := va_S.rf
  obtain ⟨hk0, hk1, hk2, hk3, hk4, hk5, hk6⟩ := id hKA
  have loop : ∀ (k_ i : Nat), i + k_ = kp → ∀ (H : Heap) (locs : List Loc), hm_H Γ f H → va_S (gA Γ) s.heap H locs → ∀ ls : Array Slot, lv_has ls 4 [(3, .int (nI i)), (2, .int (nI (cntP (fun j => bt (K j).2.2.2.2.2.2 g0) i))), (0, .ref m0), (1, .int (nI g0))] → W p l e (rmk 1 0 0) s m args below meth c H locs 0 0 (MQ below (hm_Q Γ (pI (nI (cntP (fun j => bt (K j).2.2.2.2.2.2 g0) kp)) f)) args s 0 0 (gA Γ)) (F0 m 4 ls []) := by
    intro k_
    induction k_ with
      | zero =>
        intro i hin_ H locs hH hS ls hl
        have hi : i = kp := by omega
        subst hi
        refine lv_iload_n hx hb dX8_pinsOf_4 rfl (lv_at hl 0 rfl) ?_
        refine lv_aload_n hx hb dX8_pinsOf_5 rfl (lv_at hl 2 rfl) ?_
        refine gf_X8_169 hx hb hts hown hK hH hm0 rfl dX8_pinsOf_6 ?_
        refine lv_icmp_ge (tgt := 31) hx hb dX8_pinsOf_9 (by decide) (fun _ => ?_) (fun c1 => absurd (nI_le (Nat.le_refl _) (by omega)) c1)
        refine lv_iload_n hx hb dX8_pinsOf_31 rfl (lv_at hl 1 rfl) ?_
        exact hm_iret hx hb hr hlocks hS hH (pI_of (rfl)) (Nat.le_of_ble_eq_true rfl) (Nat.le_of_ble_eq_true rfl) dX8_pinsOf_32
      | succ k_ ih =>
        intro i hin_ H locs hH hS ls hl
        have hi : i < kp := by omega
        refine lv_iload_n hx hb dX8_pinsOf_4 rfl (lv_at hl 0 rfl) ?_
        refine lv_aload_n hx hb dX8_pinsOf_5 rfl (lv_at hl 2 rfl) ?_
        refine gf_X8_169 hx hb hts hown hK hH hm0 rfl dX8_pinsOf_6 ?_
        refine lv_icmp_ge (tgt := 31) hx hb dX8_pinsOf_9 (by decide) (fun c1 => absurd c1 (nI_ge hi (by omega))) (fun _ => ?_)
        refine lv_iload_n hx hb dX8_pinsOf_12 rfl (lv_at hl 1 rfl) ?_
        refine lv_aload_n hx hb dX8_pinsOf_13 rfl (lv_at hl 2 rfl) ?_
        refine gf_X8_72 hx hb hts hown hK hH hm0 rfl dX8_pinsOf_14 ?_
        refine lv_iload_n hx hb dX8_pinsOf_17 rfl (lv_at hl 0 rfl) ?_
        refine hm_iald hx hb hK hH hk6 (vp_in_nI (show i < 64 by omega) (by decide)) dX8_pinsOf_18 ?_
        refine lv_topi (fun v2 ev2 => ?_)
        replace ev2 : v2 = (K i).2.2.2.2.2.2 := ev2.trans (by show (K (nI i).toNatClampNeg).2.2.2.2.2.2 = _; rw [nI_clamp (by omega)])
        subst ev2
        refine lv_iload_n hx hb dX8_pinsOf_19 rfl (lv_at hl 3 rfl) ?_
        refine lv_ishr hx hb dX8_pinsOf_20 ?_
        refine lv_topi (fun v3 ev3 => ?_)
        replace ev3 : v3 = ((K i).2.2.2.2.2.2 >>> (nI g0 &&& 31)) := ev3.trans (rfl)
        subst ev3
        refine lv_iconst (v := 1) hx hb dX8_pinsOf_21 (by decide) ?_
        refine lv_iand hx hb dX8_pinsOf_22 ?_
        refine lv_topi (fun v4 ev4 => ?_)
        replace ev4 : v4 = (bI (bt (K i).2.2.2.2.2.2 g0)) := ev4.trans (m_pin1 _ (by omega))
        subst ev4
        refine lv_iadd hx hb dX8_pinsOf_23 ?_
        refine lv_topi (fun v5 ev5 => ?_)
        replace ev5 : v5 = (nI (cntP (fun j => bt (K j).2.2.2.2.2.2 g0) (i + 1))) := ev5.trans (cnt_bit (P := fun j => bt (K j).2.2.2.2.2.2 g0))
        subst ev5
        refine lv_istore_n (lv' := [(2, .int ((nI (cntP (fun j => bt (K j).2.2.2.2.2.2 g0) (i + 1))))), (3, .int (nI i)), (0, .ref m0), (1, .int (nI g0))]) hx hb dX8_pinsOf_24 rfl hl (by decide) rfl (fun ls hl => ?_)
        refine lv_iinc (v := (nI (i + 1))) (lv' := [(3, .int ((nI (i + 1)))), (2, .int ((nI (cntP (fun j => bt (K j).2.2.2.2.2.2 g0) (i + 1))))), (0, .ref m0), (1, .int (nI g0))]) hx hb dX8_pinsOf_25 hl (k := 1) rfl (nI_1 i) (by decide) rfl (fun ls hl => ?_)
        refine lv_goto (tgt := 4) hx hb dX8_pinsOf_28 (by decide) ?_
        exact ih (i + 1) (by omega) H locs hH hS ls (lv_sub hl [0, 1, 2, 3] rfl)
  refine lv_iconst (v := 0) hx hb dX8_pinsOf_0 (by decide) ?_
  refine lv_istore_n (lv' := [(2, .int 0), (0, .ref m0), (1, .int (nI g0))]) hx hb dX8_pinsOf_1 rfl hl (by decide) rfl (fun ls hl => ?_)
  refine lv_iconst (v := 0) hx hb dX8_pinsOf_2 (by decide) ?_
  refine lv_istore_n (lv' := [(3, .int 0), (2, .int 0), (0, .ref m0), (1, .int (nI g0))]) hx hb dX8_pinsOf_3 rfl hl (by decide) rfl (fun ls hl => ?_)
  exact loop kp 0 (by omega) s.heap [] hH hS ls (lv_sub hl [0, 1, 2, 3] rfl)
