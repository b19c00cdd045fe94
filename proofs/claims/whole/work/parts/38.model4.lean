/-! the model's cache: drop, keep -/
def PA (Γ : Gm) (f : Hm) (r : Nat → Nat) (pb : Nat → Int64) (pz pd pn pe ph pg : Nat → Int32) : Prop :=
  f (r 21) = some (eJ Γ 6 pb) ∧ f (r 22) = some (eI Γ 6 pz) ∧ f (r 23) = some (eI Γ 6 pd) ∧ f (r 24) = some (eI Γ 6 pn) ∧ f (r 25) = some (eI Γ 6 pe) ∧ f (r 26) = some (eI Γ 6 ph) ∧ f (r 27) = some (eI Γ 6 pg)
def setK (K : Nat → EV) (e : Nat) (y : EV) : Nat → EV := fun j => if j = e then y else K j
abbrev MS : Type := (Nat → EV) × Nat × Int32
def addM (q : MS) (b : Int64) (z d w h : Int32) : MS := (setK q.1 q.2.1 (b, z, d, w, h, q.2.2 + 1, 0), q.2.1 + 1, q.2.2 + 1)
def keepM (rr : Nat) (q : MS) (b : Int64) (z d w h : Int32) : MS :=
  if q.2.1 = rr then match oldM q.1 q.2.1 with
    | none => q
    | some o => addM (setK q.1 o (q.1 (q.2.1 - 1)), q.2.1 - 1, q.2.2) b z d w h
  else addM q b z d w h
theorem keepM_add {rr : Nat} {q : MS} {b : Int64} {z d w h : Int32} (hn : ¬ q.2.1 = rr) : keepM rr q b z d w h = addM q b z d w h := if_neg hn
theorem keepM_no {rr : Nat} {q : MS} {b : Int64} {z d w h : Int32} (hn : q.2.1 = rr) (ho : oldM q.1 q.2.1 = none) : keepM rr q b z d w h = q := by
  unfold keepM
  rw [if_pos hn, ho]
theorem keepM_drop {rr o : Nat} {q : MS} {b : Int64} {z d w h : Int32} (hn : q.2.1 = rr) (ho : oldM q.1 q.2.1 = some o) : keepM rr q b z d w h = addM (setK q.1 o (q.1 (q.2.1 - 1)), q.2.1 - 1, q.2.2) b z d w h := by
  unfold keepM
  rw [if_pos hn, ho]
set_option maxHeartbeats 4000000 in
set_option maxRecDepth 100000 in
theorem c_X8_drop (Γ : Gm) (l : Launch) (m0 : Nat) (r : Nat → Nat) (mth mpl mga mtr mro mck mli mdz mgd mhi mmi mfh msh msm mso : Int32) (msp mrf : Int64) (kp : Nat) (K : Nat → EV) (e0 : Nat) (f : Hm) (hm0 : f m0 = some (eM r mth mpl mga mtr ((nI kp)) mro mck mli mdz mgd mhi mmi mfh msh msm mso msp mrf)) (hKA : KA Γ f r K) (hkp : kp ≤ 64) (hrI : rI r) (he : e0 < kp) : Ct Γ l yX8_drop cX8_drop 2 (none : Option Jvm.ClassFile.FieldType) 1 0 0 [.ref m0, .int (nI e0)] f (fun v f' => v = none ∧ f' m0 = some (eM r mth mpl mga mtr ((nI (kp - 1))) mro mck mli mdz mgd mhi mmi mfh msh msm mso msp mrf) ∧ KA Γ f' r (setK K e0 (K (kp - 1))) ∧ hm_fr (kS m0 r) f f') := by
  refine Ct_of (by decide +kernel) (Nat.le_of_ble_eq_true rfl) ?_
  intro p e s m args below meth c hx hb hr hml hown hin hlocks hts hH hO hK ls hl
  have hl : lv_has ls 2 [(0, .ref m0), (1, .int (nI e0))] := hl
  have hS : va_S (gA Γ) s.heap s.heap [] := va_S.rf
  obtain ⟨hk0, hk1, hk2, hk3, hk4, hk5, hk6⟩ := id hKA
  refine lv_aload_n hx hb dX8_drop_0 rfl (lv_at hl 0 rfl) ?_
  refine lv_dup hx hb dX8_drop_1 rfl ?_
  refine gf_X8_169 hx hb hts hown hK hH hm0 rfl dX8_drop_2 ?_
  refine lv_iconst (v := 1) hx hb dX8_drop_5 (by decide) ?_
  refine lv_isub hx hb dX8_drop_6 ?_
  refine lv_topi (fun v1 ev1 => ?_)
  replace ev1 : v1 = nI (kp - 1) := ev1.trans (nI_sub_ge (a := kp) (b := 1) (by omega) (by omega))
  subst ev1
  refine pf_X8_169 hx hb hts hown hK hO hS hH hm0 rfl (Nat.le_of_ble_eq_true rfl) rfl dX8_drop_7 (fun H locs hH hS => ?_)
  obtain ⟨f2, ef2⟩ : ∃ zz_, zz_ = hm_up f m0 (eM r mth mpl mga mtr (nI (kp - 1)) mro mck mli mdz mgd mhi mmi mfh msh msm mso msp mrf) := ⟨_, rfl⟩
  have hH : hm_H Γ f2 H := by rw [ef2]; exact hH
  have h3 : f2 m0 = some (eM r mth mpl mga mtr (nI (kp - 1)) mro mck mli mdz mgd mhi mmi mfh msh msm mso msp mrf) := by rw [ef2]; exact hm_us
  have h4 : f2 ((r 14)) = some (eJ Γ 64 (fun j => (K j).1)) := by rw [ef2]; exact (hm_un (hm_ne hk0 hm0 (fun q => by cases q))).trans hk0
  have h5 : f2 ((r 15)) = some (eI Γ 64 (fun j => (K j).2.1)) := by rw [ef2]; exact (hm_un (hm_ne hk1 hm0 (fun q => by cases q))).trans hk1
  have h6 : f2 ((r 16)) = some (eI Γ 64 (fun j => (K j).2.2.1)) := by rw [ef2]; exact (hm_un (hm_ne hk2 hm0 (fun q => by cases q))).trans hk2
  have h7 : f2 ((r 17)) = some (eI Γ 64 (fun j => (K j).2.2.2.1)) := by rw [ef2]; exact (hm_un (hm_ne hk3 hm0 (fun q => by cases q))).trans hk3
  have h8 : f2 ((r 18)) = some (eI Γ 64 (fun j => (K j).2.2.2.2.1)) := by rw [ef2]; exact (hm_un (hm_ne hk4 hm0 (fun q => by cases q))).trans hk4
  have h9 : f2 ((r 19)) = some (eI Γ 64 (fun j => (K j).2.2.2.2.2.1)) := by rw [ef2]; exact (hm_un (hm_ne hk5 hm0 (fun q => by cases q))).trans hk5
  have h10 : f2 ((r 20)) = some (eI Γ 64 (fun j => (K j).2.2.2.2.2.2)) := by rw [ef2]; exact (hm_un (hm_ne hk6 hm0 (fun q => by cases q))).trans hk6
  refine lv_aload_n hx hb dX8_drop_10 rfl (lv_at hl 0 rfl) ?_
  refine gf_X8_54 hx hb hts hown hK hH h3 rfl dX8_drop_11 ?_
  refine lv_iload_n hx hb dX8_drop_14 rfl (lv_at hl 1 rfl) ?_
  refine lv_aload_n hx hb dX8_drop_15 rfl (lv_at hl 0 rfl) ?_
  refine gf_X8_54 hx hb hts hown hK hH h3 rfl dX8_drop_16 ?_
  refine lv_aload_n hx hb dX8_drop_19 rfl (lv_at hl 0 rfl) ?_
  refine gf_X8_169 hx hb hts hown hK hH h3 rfl dX8_drop_20 ?_
  refine hm_lald hx hb hK hH h4 (vp_in_nI (show kp - 1 < 64 by omega) (by decide)) dX8_drop_23 ?_
  refine lv_topl (fun v11 ev11 => ?_)
  replace ev11 : v11 = (K (kp - 1)).1 := ev11.trans (by show (K (nI (kp - 1)).toNatClampNeg).1 = _; rw [nI_clamp (by omega)])
  subst ev11
  refine hm_last hx hb hK hO hS hH h4 (vp_in_nI (show e0 < 64 by omega) (by decide)) dX8_drop_24 (fun H locs hH hS => ?_)
  obtain ⟨f12, ef12⟩ : ∃ zz_, zz_ = hm_up f2 ((r 14)) (eJ Γ 64 (vp_updL (fun j => (K j).1) (nI e0).toNatClampNeg ((K (kp - 1)).1))) := ⟨_, rfl⟩
  have hH : hm_H Γ f12 H := by rw [ef12]; exact hH
  have h13 : f12 ((r 14)) = some (eJ Γ 64 (vp_updL (fun j => (K j).1) (nI e0).toNatClampNeg ((K (kp - 1)).1))) := by rw [ef12]; exact hm_us
  have h14 : f12 ((r 15)) = some (eI Γ 64 (fun j => (K j).2.1)) := by rw [ef12]; exact (hm_un (hrI 15 14 (by decide) (by decide) (by decide))).trans h5
  have h15 : f12 ((r 16)) = some (eI Γ 64 (fun j => (K j).2.2.1)) := by rw [ef12]; exact (hm_un (hrI 16 14 (by decide) (by decide) (by decide))).trans h6
  have h16 : f12 ((r 17)) = some (eI Γ 64 (fun j => (K j).2.2.2.1)) := by rw [ef12]; exact (hm_un (hrI 17 14 (by decide) (by decide) (by decide))).trans h7
  have h17 : f12 ((r 18)) = some (eI Γ 64 (fun j => (K j).2.2.2.2.1)) := by rw [ef12]; exact (hm_un (hrI 18 14 (by decide) (by decide) (by decide))).trans h8
  have h18 : f12 ((r 19)) = some (eI Γ 64 (fun j => (K j).2.2.2.2.2.1)) := by rw [ef12]; exact (hm_un (hrI 19 14 (by decide) (by decide) (by decide))).trans h9
  have h19 : f12 ((r 20)) = some (eI Γ 64 (fun j => (K j).2.2.2.2.2.2)) := by rw [ef12]; exact (hm_un (hrI 20 14 (by decide) (by decide) (by decide))).trans h10
  have h20 : f12 m0 = some (eM r mth mpl mga mtr (nI (kp - 1)) mro mck mli mdz mgd mhi mmi mfh msh msm mso msp mrf) := by rw [ef12]; exact (hm_un (hm_ne h3 h4 (fun q => by cases q))).trans h3
  refine lv_aload_n hx hb dX8_drop_25 rfl (lv_at hl 0 rfl) ?_
  refine gf_X8_57 hx hb hts hown hK hH h20 rfl dX8_drop_26 ?_
  refine lv_iload_n hx hb dX8_drop_29 rfl (lv_at hl 1 rfl) ?_
  refine lv_aload_n hx hb dX8_drop_30 rfl (lv_at hl 0 rfl) ?_
  refine gf_X8_57 hx hb hts hown hK hH h20 rfl dX8_drop_31 ?_
  refine lv_aload_n hx hb dX8_drop_34 rfl (lv_at hl 0 rfl) ?_
  refine gf_X8_169 hx hb hts hown hK hH h20 rfl dX8_drop_35 ?_
  refine hm_iald hx hb hK hH h14 (vp_in_nI (show kp - 1 < 64 by omega) (by decide)) dX8_drop_38 ?_
  refine lv_topi (fun v21 ev21 => ?_)
  replace ev21 : v21 = (K (kp - 1)).2.1 := ev21.trans (by show (K (nI (kp - 1)).toNatClampNeg).2.1 = _; rw [nI_clamp (by omega)])
  subst ev21
  refine hm_iast hx hb hK hO hS hH h14 (vp_in_nI (show e0 < 64 by omega) (by decide)) dX8_drop_39 (fun H locs hH hS => ?_)
  obtain ⟨f22, ef22⟩ : ∃ zz_, zz_ = hm_up f12 ((r 15)) (eI Γ 64 (upd (fun j => (K j).2.1) (nI e0).toNatClampNeg ((K (kp - 1)).2.1))) := ⟨_, rfl⟩
  have hH : hm_H Γ f22 H := by rw [ef22]; exact hH
  have h23 : f22 ((r 15)) = some (eI Γ 64 (upd (fun j => (K j).2.1) (nI e0).toNatClampNeg ((K (kp - 1)).2.1))) := by rw [ef22]; exact hm_us
  have h24 : f22 ((r 14)) = some (eJ Γ 64 (vp_updL (fun j => (K j).1) (nI e0).toNatClampNeg ((K (kp - 1)).1))) := by rw [ef22]; exact (hm_un (hrI 14 15 (by decide) (by decide) (by decide))).trans h13
  have h25 : f22 ((r 16)) = some (eI Γ 64 (fun j => (K j).2.2.1)) := by rw [ef22]; exact (hm_un (hrI 16 15 (by decide) (by decide) (by decide))).trans h15
  have h26 : f22 ((r 17)) = some (eI Γ 64 (fun j => (K j).2.2.2.1)) := by rw [ef22]; exact (hm_un (hrI 17 15 (by decide) (by decide) (by decide))).trans h16
  have h27 : f22 ((r 18)) = some (eI Γ 64 (fun j => (K j).2.2.2.2.1)) := by rw [ef22]; exact (hm_un (hrI 18 15 (by decide) (by decide) (by decide))).trans h17
  have h28 : f22 ((r 19)) = some (eI Γ 64 (fun j => (K j).2.2.2.2.2.1)) := by rw [ef22]; exact (hm_un (hrI 19 15 (by decide) (by decide) (by decide))).trans h18
  have h29 : f22 ((r 20)) = some (eI Γ 64 (fun j => (K j).2.2.2.2.2.2)) := by rw [ef22]; exact (hm_un (hrI 20 15 (by decide) (by decide) (by decide))).trans h19
  have h30 : f22 m0 = some (eM r mth mpl mga mtr (nI (kp - 1)) mro mck mli mdz mgd mhi mmi mfh msh msm mso msp mrf) := by rw [ef22]; exact (hm_un (hm_ne h20 h14 (fun q => by cases q))).trans h20
  refine lv_aload_n hx hb dX8_drop_40 rfl (lv_at hl 0 rfl) ?_
  refine gf_X8_60 hx hb hts hown hK hH h30 rfl dX8_drop_41 ?_
  refine lv_iload_n hx hb dX8_drop_44 rfl (lv_at hl 1 rfl) ?_
  refine lv_aload_n hx hb dX8_drop_45 rfl (lv_at hl 0 rfl) ?_
  refine gf_X8_60 hx hb hts hown hK hH h30 rfl dX8_drop_46 ?_
  refine lv_aload_n hx hb dX8_drop_49 rfl (lv_at hl 0 rfl) ?_
  refine gf_X8_169 hx hb hts hown hK hH h30 rfl dX8_drop_50 ?_
  refine hm_iald hx hb hK hH h25 (vp_in_nI (show kp - 1 < 64 by omega) (by decide)) dX8_drop_53 ?_
  refine lv_topi (fun v31 ev31 => ?_)
  replace ev31 : v31 = (K (kp - 1)).2.2.1 := ev31.trans (by show (K (nI (kp - 1)).toNatClampNeg).2.2.1 = _; rw [nI_clamp (by omega)])
  subst ev31
  refine hm_iast hx hb hK hO hS hH h25 (vp_in_nI (show e0 < 64 by omega) (by decide)) dX8_drop_54 (fun H locs hH hS => ?_)
  obtain ⟨f32, ef32⟩ : ∃ zz_, zz_ = hm_up f22 ((r 16)) (eI Γ 64 (upd (fun j => (K j).2.2.1) (nI e0).toNatClampNeg ((K (kp - 1)).2.2.1))) := ⟨_, rfl⟩
  have hH : hm_H Γ f32 H := by rw [ef32]; exact hH
  have h33 : f32 ((r 16)) = some (eI Γ 64 (upd (fun j => (K j).2.2.1) (nI e0).toNatClampNeg ((K (kp - 1)).2.2.1))) := by rw [ef32]; exact hm_us
  have h34 : f32 ((r 14)) = some (eJ Γ 64 (vp_updL (fun j => (K j).1) (nI e0).toNatClampNeg ((K (kp - 1)).1))) := by rw [ef32]; exact (hm_un (hrI 14 16 (by decide) (by decide) (by decide))).trans h24
  have h35 : f32 ((r 15)) = some (eI Γ 64 (upd (fun j => (K j).2.1) (nI e0).toNatClampNeg ((K (kp - 1)).2.1))) := by rw [ef32]; exact (hm_un (hrI 15 16 (by decide) (by decide) (by decide))).trans h23
  have h36 : f32 ((r 17)) = some (eI Γ 64 (fun j => (K j).2.2.2.1)) := by rw [ef32]; exact (hm_un (hrI 17 16 (by decide) (by decide) (by decide))).trans h26
  have h37 : f32 ((r 18)) = some (eI Γ 64 (fun j => (K j).2.2.2.2.1)) := by rw [ef32]; exact (hm_un (hrI 18 16 (by decide) (by decide) (by decide))).trans h27
  have h38 : f32 ((r 19)) = some (eI Γ 64 (fun j => (K j).2.2.2.2.2.1)) := by rw [ef32]; exact (hm_un (hrI 19 16 (by decide) (by decide) (by decide))).trans h28
  have h39 : f32 ((r 20)) = some (eI Γ 64 (fun j => (K j).2.2.2.2.2.2)) := by rw [ef32]; exact (hm_un (hrI 20 16 (by decide) (by decide) (by decide))).trans h29
  have h40 : f32 m0 = some (eM r mth mpl mga mtr (nI (kp - 1)) mro mck mli mdz mgd mhi mmi mfh msh msm mso msp mrf) := by rw [ef32]; exact (hm_un (hm_ne h30 h25 (fun q => by cases q))).trans h30
  refine lv_aload_n hx hb dX8_drop_55 rfl (lv_at hl 0 rfl) ?_
  refine gf_X8_63 hx hb hts hown hK hH h40 rfl dX8_drop_56 ?_
  refine lv_iload_n hx hb dX8_drop_59 rfl (lv_at hl 1 rfl) ?_
  refine lv_aload_n hx hb dX8_drop_60 rfl (lv_at hl 0 rfl) ?_
  refine gf_X8_63 hx hb hts hown hK hH h40 rfl dX8_drop_61 ?_
  refine lv_aload_n hx hb dX8_drop_64 rfl (lv_at hl 0 rfl) ?_
  refine gf_X8_169 hx hb hts hown hK hH h40 rfl dX8_drop_65 ?_
  refine hm_iald hx hb hK hH h36 (vp_in_nI (show kp - 1 < 64 by omega) (by decide)) dX8_drop_68 ?_
  refine lv_topi (fun v41 ev41 => ?_)
  replace ev41 : v41 = (K (kp - 1)).2.2.2.1 := ev41.trans (by show (K (nI (kp - 1)).toNatClampNeg).2.2.2.1 = _; rw [nI_clamp (by omega)])
  subst ev41
  refine hm_iast hx hb hK hO hS hH h36 (vp_in_nI (show e0 < 64 by omega) (by decide)) dX8_drop_69 (fun H locs hH hS => ?_)
  obtain ⟨f42, ef42⟩ : ∃ zz_, zz_ = hm_up f32 ((r 17)) (eI Γ 64 (upd (fun j => (K j).2.2.2.1) (nI e0).toNatClampNeg ((K (kp - 1)).2.2.2.1))) := ⟨_, rfl⟩
  have hH : hm_H Γ f42 H := by rw [ef42]; exact hH
  have h43 : f42 ((r 17)) = some (eI Γ 64 (upd (fun j => (K j).2.2.2.1) (nI e0).toNatClampNeg ((K (kp - 1)).2.2.2.1))) := by rw [ef42]; exact hm_us
  have h44 : f42 ((r 14)) = some (eJ Γ 64 (vp_updL (fun j => (K j).1) (nI e0).toNatClampNeg ((K (kp - 1)).1))) := by rw [ef42]; exact (hm_un (hrI 14 17 (by decide) (by decide) (by decide))).trans h34
  have h45 : f42 ((r 15)) = some (eI Γ 64 (upd (fun j => (K j).2.1) (nI e0).toNatClampNeg ((K (kp - 1)).2.1))) := by rw [ef42]; exact (hm_un (hrI 15 17 (by decide) (by decide) (by decide))).trans h35
  have h46 : f42 ((r 16)) = some (eI Γ 64 (upd (fun j => (K j).2.2.1) (nI e0).toNatClampNeg ((K (kp - 1)).2.2.1))) := by rw [ef42]; exact (hm_un (hrI 16 17 (by decide) (by decide) (by decide))).trans h33
  have h47 : f42 ((r 18)) = some (eI Γ 64 (fun j => (K j).2.2.2.2.1)) := by rw [ef42]; exact (hm_un (hrI 18 17 (by decide) (by decide) (by decide))).trans h37
  have h48 : f42 ((r 19)) = some (eI Γ 64 (fun j => (K j).2.2.2.2.2.1)) := by rw [ef42]; exact (hm_un (hrI 19 17 (by decide) (by decide) (by decide))).trans h38
  have h49 : f42 ((r 20)) = some (eI Γ 64 (fun j => (K j).2.2.2.2.2.2)) := by rw [ef42]; exact (hm_un (hrI 20 17 (by decide) (by decide) (by decide))).trans h39
  have h50 : f42 m0 = some (eM r mth mpl mga mtr (nI (kp - 1)) mro mck mli mdz mgd mhi mmi mfh msh msm mso msp mrf) := by rw [ef42]; exact (hm_un (hm_ne h40 h36 (fun q => by cases q))).trans h40
  refine lv_aload_n hx hb dX8_drop_70 rfl (lv_at hl 0 rfl) ?_
  refine gf_X8_66 hx hb hts hown hK hH h50 rfl dX8_drop_71 ?_
  refine lv_iload_n hx hb dX8_drop_74 rfl (lv_at hl 1 rfl) ?_
  refine lv_aload_n hx hb dX8_drop_75 rfl (lv_at hl 0 rfl) ?_
  refine gf_X8_66 hx hb hts hown hK hH h50 rfl dX8_drop_76 ?_
  refine lv_aload_n hx hb dX8_drop_79 rfl (lv_at hl 0 rfl) ?_
  refine gf_X8_169 hx hb hts hown hK hH h50 rfl dX8_drop_80 ?_
  refine hm_iald hx hb hK hH h47 (vp_in_nI (show kp - 1 < 64 by omega) (by decide)) dX8_drop_83 ?_
  refine lv_topi (fun v51 ev51 => ?_)
  replace ev51 : v51 = (K (kp - 1)).2.2.2.2.1 := ev51.trans (by show (K (nI (kp - 1)).toNatClampNeg).2.2.2.2.1 = _; rw [nI_clamp (by omega)])
  subst ev51
  refine hm_iast hx hb hK hO hS hH h47 (vp_in_nI (show e0 < 64 by omega) (by decide)) dX8_drop_84 (fun H locs hH hS => ?_)
  obtain ⟨f52, ef52⟩ : ∃ zz_, zz_ = hm_up f42 ((r 18)) (eI Γ 64 (upd (fun j => (K j).2.2.2.2.1) (nI e0).toNatClampNeg ((K (kp - 1)).2.2.2.2.1))) := ⟨_, rfl⟩
  have hH : hm_H Γ f52 H := by rw [ef52]; exact hH
  have h53 : f52 ((r 18)) = some (eI Γ 64 (upd (fun j => (K j).2.2.2.2.1) (nI e0).toNatClampNeg ((K (kp - 1)).2.2.2.2.1))) := by rw [ef52]; exact hm_us
  have h54 : f52 ((r 14)) = some (eJ Γ 64 (vp_updL (fun j => (K j).1) (nI e0).toNatClampNeg ((K (kp - 1)).1))) := by rw [ef52]; exact (hm_un (hrI 14 18 (by decide) (by decide) (by decide))).trans h44
  have h55 : f52 ((r 15)) = some (eI Γ 64 (upd (fun j => (K j).2.1) (nI e0).toNatClampNeg ((K (kp - 1)).2.1))) := by rw [ef52]; exact (hm_un (hrI 15 18 (by decide) (by decide) (by decide))).trans h45
  have h56 : f52 ((r 16)) = some (eI Γ 64 (upd (fun j => (K j).2.2.1) (nI e0).toNatClampNeg ((K (kp - 1)).2.2.1))) := by rw [ef52]; exact (hm_un (hrI 16 18 (by decide) (by decide) (by decide))).trans h46
  have h57 : f52 ((r 17)) = some (eI Γ 64 (upd (fun j => (K j).2.2.2.1) (nI e0).toNatClampNeg ((K (kp - 1)).2.2.2.1))) := by rw [ef52]; exact (hm_un (hrI 17 18 (by decide) (by decide) (by decide))).trans h43
  have h58 : f52 ((r 19)) = some (eI Γ 64 (fun j => (K j).2.2.2.2.2.1)) := by rw [ef52]; exact (hm_un (hrI 19 18 (by decide) (by decide) (by decide))).trans h48
  have h59 : f52 ((r 20)) = some (eI Γ 64 (fun j => (K j).2.2.2.2.2.2)) := by rw [ef52]; exact (hm_un (hrI 20 18 (by decide) (by decide) (by decide))).trans h49
  have h60 : f52 m0 = some (eM r mth mpl mga mtr (nI (kp - 1)) mro mck mli mdz mgd mhi mmi mfh msh msm mso msp mrf) := by rw [ef52]; exact (hm_un (hm_ne h50 h47 (fun q => by cases q))).trans h50
  refine lv_aload_n hx hb dX8_drop_85 rfl (lv_at hl 0 rfl) ?_
  refine gf_X8_69 hx hb hts hown hK hH h60 rfl dX8_drop_86 ?_
  refine lv_iload_n hx hb dX8_drop_89 rfl (lv_at hl 1 rfl) ?_
  refine lv_aload_n hx hb dX8_drop_90 rfl (lv_at hl 0 rfl) ?_
  refine gf_X8_69 hx hb hts hown hK hH h60 rfl dX8_drop_91 ?_
  refine lv_aload_n hx hb dX8_drop_94 rfl (lv_at hl 0 rfl) ?_
  refine gf_X8_169 hx hb hts hown hK hH h60 rfl dX8_drop_95 ?_
  refine hm_iald hx hb hK hH h58 (vp_in_nI (show kp - 1 < 64 by omega) (by decide)) dX8_drop_98 ?_
  refine lv_topi (fun v61 ev61 => ?_)
  replace ev61 : v61 = (K (kp - 1)).2.2.2.2.2.1 := ev61.trans (by show (K (nI (kp - 1)).toNatClampNeg).2.2.2.2.2.1 = _; rw [nI_clamp (by omega)])
  subst ev61
  refine hm_iast hx hb hK hO hS hH h58 (vp_in_nI (show e0 < 64 by omega) (by decide)) dX8_drop_99 (fun H locs hH hS => ?_)
  obtain ⟨f62, ef62⟩ : ∃ zz_, zz_ = hm_up f52 ((r 19)) (eI Γ 64 (upd (fun j => (K j).2.2.2.2.2.1) (nI e0).toNatClampNeg ((K (kp - 1)).2.2.2.2.2.1))) := ⟨_, rfl⟩
  have hH : hm_H Γ f62 H := by rw [ef62]; exact hH
  have h63 : f62 ((r 19)) = some (eI Γ 64 (upd (fun j => (K j).2.2.2.2.2.1) (nI e0).toNatClampNeg ((K (kp - 1)).2.2.2.2.2.1))) := by rw [ef62]; exact hm_us
  have h64 : f62 ((r 14)) = some (eJ Γ 64 (vp_updL (fun j => (K j).1) (nI e0).toNatClampNeg ((K (kp - 1)).1))) := by rw [ef62]; exact (hm_un (hrI 14 19 (by decide) (by decide) (by decide))).trans h54
  have h65 : f62 ((r 15)) = some (eI Γ 64 (upd (fun j => (K j).2.1) (nI e0).toNatClampNeg ((K (kp - 1)).2.1))) := by rw [ef62]; exact (hm_un (hrI 15 19 (by decide) (by decide) (by decide))).trans h55
  have h66 : f62 ((r 16)) = some (eI Γ 64 (upd (fun j => (K j).2.2.1) (nI e0).toNatClampNeg ((K (kp - 1)).2.2.1))) := by rw [ef62]; exact (hm_un (hrI 16 19 (by decide) (by decide) (by decide))).trans h56
  have h67 : f62 ((r 17)) = some (eI Γ 64 (upd (fun j => (K j).2.2.2.1) (nI e0).toNatClampNeg ((K (kp - 1)).2.2.2.1))) := by rw [ef62]; exact (hm_un (hrI 17 19 (by decide) (by decide) (by decide))).trans h57
  have h68 : f62 ((r 18)) = some (eI Γ 64 (upd (fun j => (K j).2.2.2.2.1) (nI e0).toNatClampNeg ((K (kp - 1)).2.2.2.2.1))) := by rw [ef62]; exact (hm_un (hrI 18 19 (by decide) (by decide) (by decide))).trans h53
  have h69 : f62 ((r 20)) = some (eI Γ 64 (fun j => (K j).2.2.2.2.2.2)) := by rw [ef62]; exact (hm_un (hrI 20 19 (by decide) (by decide) (by decide))).trans h59
  have h70 : f62 m0 = some (eM r mth mpl mga mtr (nI (kp - 1)) mro mck mli mdz mgd mhi mmi mfh msh msm mso msp mrf) := by rw [ef62]; exact (hm_un (hm_ne h60 h58 (fun q => by cases q))).trans h60
  refine lv_aload_n hx hb dX8_drop_100 rfl (lv_at hl 0 rfl) ?_
  refine gf_X8_72 hx hb hts hown hK hH h70 rfl dX8_drop_101 ?_
  refine lv_iload_n hx hb dX8_drop_104 rfl (lv_at hl 1 rfl) ?_
  refine lv_aload_n hx hb dX8_drop_105 rfl (lv_at hl 0 rfl) ?_
  refine gf_X8_72 hx hb hts hown hK hH h70 rfl dX8_drop_106 ?_
  refine lv_aload_n hx hb dX8_drop_109 rfl (lv_at hl 0 rfl) ?_
  refine gf_X8_169 hx hb hts hown hK hH h70 rfl dX8_drop_110 ?_
  refine hm_iald hx hb hK hH h69 (vp_in_nI (show kp - 1 < 64 by omega) (by decide)) dX8_drop_113 ?_
  refine lv_topi (fun v71 ev71 => ?_)
  replace ev71 : v71 = (K (kp - 1)).2.2.2.2.2.2 := ev71.trans (by show (K (nI (kp - 1)).toNatClampNeg).2.2.2.2.2.2 = _; rw [nI_clamp (by omega)])
  subst ev71
  refine hm_iast hx hb hK hO hS hH h69 (vp_in_nI (show e0 < 64 by omega) (by decide)) dX8_drop_114 (fun H locs hH hS => ?_)
  obtain ⟨f72, ef72⟩ : ∃ zz_, zz_ = hm_up f62 ((r 20)) (eI Γ 64 (upd (fun j => (K j).2.2.2.2.2.2) (nI e0).toNatClampNeg ((K (kp - 1)).2.2.2.2.2.2))) := ⟨_, rfl⟩
  have hH : hm_H Γ f72 H := by rw [ef72]; exact hH
  have h73 : f72 ((r 20)) = some (eI Γ 64 (upd (fun j => (K j).2.2.2.2.2.2) (nI e0).toNatClampNeg ((K (kp - 1)).2.2.2.2.2.2))) := by rw [ef72]; exact hm_us
  have h74 : f72 ((r 14)) = some (eJ Γ 64 (vp_updL (fun j => (K j).1) (nI e0).toNatClampNeg ((K (kp - 1)).1))) := by rw [ef72]; exact (hm_un (hrI 14 20 (by decide) (by decide) (by decide))).trans h64
  have h75 : f72 ((r 15)) = some (eI Γ 64 (upd (fun j => (K j).2.1) (nI e0).toNatClampNeg ((K (kp - 1)).2.1))) := by rw [ef72]; exact (hm_un (hrI 15 20 (by decide) (by decide) (by decide))).trans h65
  have h76 : f72 ((r 16)) = some (eI Γ 64 (upd (fun j => (K j).2.2.1) (nI e0).toNatClampNeg ((K (kp - 1)).2.2.1))) := by rw [ef72]; exact (hm_un (hrI 16 20 (by decide) (by decide) (by decide))).trans h66
  have h77 : f72 ((r 17)) = some (eI Γ 64 (upd (fun j => (K j).2.2.2.1) (nI e0).toNatClampNeg ((K (kp - 1)).2.2.2.1))) := by rw [ef72]; exact (hm_un (hrI 17 20 (by decide) (by decide) (by decide))).trans h67
  have h78 : f72 ((r 18)) = some (eI Γ 64 (upd (fun j => (K j).2.2.2.2.1) (nI e0).toNatClampNeg ((K (kp - 1)).2.2.2.2.1))) := by rw [ef72]; exact (hm_un (hrI 18 20 (by decide) (by decide) (by decide))).trans h68
  have h79 : f72 ((r 19)) = some (eI Γ 64 (upd (fun j => (K j).2.2.2.2.2.1) (nI e0).toNatClampNeg ((K (kp - 1)).2.2.2.2.2.1))) := by rw [ef72]; exact (hm_un (hrI 19 20 (by decide) (by decide) (by decide))).trans h63
  have h80 : f72 m0 = some (eM r mth mpl mga mtr (nI (kp - 1)) mro mck mli mdz mgd mhi mmi mfh msh msm mso msp mrf) := by rw [ef72]; exact (hm_un (hm_ne h70 h69 (fun q => by cases q))).trans h70
  have hKA2 : KA Γ f72 r (setK K e0 (K (kp - 1))) := ⟨(by have z_ := h74; rw [nI_clamp (n := e0) (by omega)] at z_; exact z_.trans (congrArg some (congrArg (eJ Γ 64) (updL_fun (fun x : EV => x.1) K e0 (K (kp - 1)))))), (by have z_ := h75; rw [nI_clamp (n := e0) (by omega)] at z_; exact z_.trans (congrArg some (congrArg (eI Γ 64) (upd_fun (fun x : EV => x.2.1) K e0 (K (kp - 1)))))), (by have z_ := h76; rw [nI_clamp (n := e0) (by omega)] at z_; exact z_.trans (congrArg some (congrArg (eI Γ 64) (upd_fun (fun x : EV => x.2.2.1) K e0 (K (kp - 1)))))), (by have z_ := h77; rw [nI_clamp (n := e0) (by omega)] at z_; exact z_.trans (congrArg some (congrArg (eI Γ 64) (upd_fun (fun x : EV => x.2.2.2.1) K e0 (K (kp - 1)))))), (by have z_ := h78; rw [nI_clamp (n := e0) (by omega)] at z_; exact z_.trans (congrArg some (congrArg (eI Γ 64) (upd_fun (fun x : EV => x.2.2.2.2.1) K e0 (K (kp - 1)))))), (by have z_ := h79; rw [nI_clamp (n := e0) (by omega)] at z_; exact z_.trans (congrArg some (congrArg (eI Γ 64) (upd_fun (fun x : EV => x.2.2.2.2.2.1) K e0 (K (kp - 1)))))), (by have z_ := h73; rw [nI_clamp (n := e0) (by omega)] at z_; exact z_.trans (congrArg some (congrArg (eI Γ 64) (upd_fun (fun x : EV => x.2.2.2.2.2.2) K e0 (K (kp - 1))))))⟩
  have hfr2 : hm_fr (kS m0 r) f f72 := by
    rw [ef72]
    rw [ef62]
    rw [ef52]
    rw [ef42]
    rw [ef32]
    rw [ef22]
    rw [ef12]
    rw [ef2]
    exact ((((((((hm_fr.rf (S := kS m0 r)).up (Or.inl rfl)).up (Or.inr ⟨14, by decide, by decide, rfl⟩)).up (Or.inr ⟨15, by decide, by decide, rfl⟩)).up (Or.inr ⟨16, by decide, by decide, rfl⟩)).up (Or.inr ⟨17, by decide, by decide, rfl⟩)).up (Or.inr ⟨18, by decide, by decide, rfl⟩)).up (Or.inr ⟨19, by decide, by decide, rfl⟩)).up (Or.inr ⟨20, by decide, by decide, rfl⟩)
  exact hm_vret hx hb hr hlocks hS hH (⟨rfl, h80, hKA2, hfr2⟩) (Nat.le_of_ble_eq_true rfl) (Nat.le_of_ble_eq_true rfl) dX8_drop_115
set_option maxHeartbeats 4000000 in
set_option maxRecDepth 100000 in
theorem c_X8_keep (Γ : Gm) (l : Launch) (m0 : Nat) (r : Nat → Nat) (mth mpl mga mtr mck mli mdz mgd mhi mmi mfh msh msm mso : Int32) (msp mrf : Int64) (kp : Nat) (K : Nat → EV) (rr lv : Nat) (pb : Nat → Int64) (pz pd pn pe ph pg : Nat → Int32) (f : Hm) (hm0 : f m0 = some (eM r mth mpl mga mtr ((nI kp)) ((nI rr)) mck mli mdz mgd mhi mmi mfh msh msm mso msp mrf)) (hKA : KA Γ f r K) (hPA : PA Γ f r pb pz pd pn pe ph pg) (hrI : rI r) (hkr : kp ≤ rr) (hr1 : 1 ≤ rr) (hrr : rr ≤ 64) (hlv : lv < 6) : Ct Γ l yX8_keep cX8_keep 3 (none : Option Jvm.ClassFile.FieldType) 2 0 0 [.ref m0, .int (nI lv)] f (fun v f' => v = none ∧ f' m0 = some (eM r mth mpl mga mtr ((nI (keepM rr (K, kp, mck) (pb lv) (pz lv) (pd lv) (pe lv) (ph lv)).2.1)) ((nI rr)) ((keepM rr (K, kp, mck) (pb lv) (pz lv) (pd lv) (pe lv) (ph lv)).2.2) mli mdz mgd mhi mmi mfh msh msm mso msp mrf) ∧ KA Γ f' r (keepM rr (K, kp, mck) (pb lv) (pz lv) (pd lv) (pe lv) (ph lv)).1 ∧ hm_fr (kS m0 r) f f') := by
  refine Ct_of (by decide +kernel) (Nat.le_of_ble_eq_true rfl) ?_
  intro p e s m args below meth c hx hb hr hml hown hin hlocks hts hH hO hK ls hl
  have hl : lv_has ls 3 [(0, .ref m0), (1, .int (nI lv))] := hl
  have hS : va_S (gA Γ) s.heap s.heap [] := va_S.rf
  have hmr : ∀ k x, f (r k) = some (.inl x) → m0 ≠ r k := fun k x h => hm_ne hm0 h (fun q => by cases q)
  have hPk : ∀ {f1 : Hm}, hm_fr (kS m0 r) f f1 → PA Γ f1 r pb pz pd pn pe ph pg := by
    intro f1 h1
    obtain ⟨p1, p2, p3, p4, p5, p6, p7⟩ := hPA
    have hn : ∀ k x, 21 ≤ k → k < 28 → f (r k) = some (.inl x) → ¬ kS m0 r (r k) := by
      rintro k x h21 h28 hx (q | ⟨j, j1, j2, q⟩)
      · exact hmr k x hx q.symm
      · exact hrI k j h28 (by omega) (by omega) q
    exact ⟨(h1 _ (hn 21 _ (by decide) (by decide) p1)).trans p1, (h1 _ (hn 22 _ (by decide) (by decide) p2)).trans p2, (h1 _ (hn 23 _ (by decide) (by decide) p3)).trans p3, (h1 _ (hn 24 _ (by decide) (by decide) p4)).trans p4, (h1 _ (hn 25 _ (by decide) (by decide) p5)).trans p5, (h1 _ (hn 26 _ (by decide) (by decide) p6)).trans p6, (h1 _ (hn 27 _ (by decide) (by decide) p7)).trans p7⟩
  have tail : ∀ (f1 : Hm) (K1 : Nat → EV) (k1 : Nat), k1 < 64 → f1 m0 = some (eM r mth mpl mga mtr ((nI k1)) ((nI rr)) mck mli mdz mgd mhi mmi mfh msh msm mso msp mrf) → KA Γ f1 r K1 → hm_fr (kS m0 r) f f1 → (keepM rr (K, kp, mck) (pb lv) (pz lv) (pd lv) (pe lv) (ph lv)) = addM (K1, k1, mck) (pb lv) (pz lv) (pd lv) (pe lv) (ph lv) → ∀ (H : Heap) (locs : List Loc), hm_H Γ f1 H → va_S (gA Γ) s.heap H locs → ∀ ls : Array Slot, lv_has ls 3 [(0, .ref m0), (1, .int (nI lv))] → W p l e (rmk 2 0 0) s m args below meth c H locs 0 0 (MQ below (hm_Q Γ (fun v f' => v = none ∧ f' m0 = some (eM r mth mpl mga mtr ((nI (keepM rr (K, kp, mck) (pb lv) (pz lv) (pd lv) (pe lv) (ph lv)).2.1)) ((nI rr)) ((keepM rr (K, kp, mck) (pb lv) (pz lv) (pd lv) (pe lv) (ph lv)).2.2) mli mdz mgd mhi mmi mfh msh msm mso msp mrf) ∧ KA Γ f' r (keepM rr (K, kp, mck) (pb lv) (pz lv) (pd lv) (pe lv) (ph lv)).1 ∧ hm_fr (kS m0 r) f f')) args s 0 0 (gA Γ)) (F0 m 27 ls []) := by
    intro f1 K1 k1 hk64 hm1 hKA1 hfr heq H locs hH hS ls hl
    obtain ⟨hk0, hk1, hk2, hk3, hk4, hk5, hk6⟩ := id hKA1
    obtain ⟨hp0, hp1, hp2, hp3, hp4, hp5, hp6⟩ := hPk hfr
    refine lv_aload_n hx hb dX8_keep_27 rfl (lv_at hl 0 rfl) ?_
    refine gf_X8_54 hx hb hts hown hK hH hm1 rfl dX8_keep_28 ?_
    refine lv_aload_n hx hb dX8_keep_31 rfl (lv_at hl 0 rfl) ?_
    refine gf_X8_169 hx hb hts hown hK hH hm1 rfl dX8_keep_32 ?_
    refine lv_aload_n hx hb dX8_keep_35 rfl (lv_at hl 0 rfl) ?_
    refine gf_X8_75 hx hb hts hown hK hH hm1 rfl dX8_keep_36 ?_
    refine lv_iload_n hx hb dX8_keep_39 rfl (lv_at hl 1 rfl) ?_
    refine hm_lald hx hb hK hH hp0 (vp_in_nI hlv (by decide)) dX8_keep_40 ?_
    refine lv_topl (fun v1 ev1 => ?_)
    replace ev1 : v1 = pb lv := ev1.trans (by show pb (nI lv).toNatClampNeg = _; rw [nI_clamp (by omega)])
    subst ev1
    refine hm_last hx hb hK hO hS hH hk0 (vp_in_nI hk64 (by decide)) dX8_keep_41 (fun H locs hH hS => ?_)
    obtain ⟨f2, ef2⟩ : ∃ zz_, zz_ = hm_up f1 ((r 14)) (eJ Γ 64 (vp_updL (fun j => (K1 j).1) (nI k1).toNatClampNeg (pb lv))) := ⟨_, rfl⟩
    have hH : hm_H Γ f2 H := by rw [ef2]; exact hH
    have h3 : f2 ((r 14)) = some (eJ Γ 64 (vp_updL (fun j => (K1 j).1) (nI k1).toNatClampNeg (pb lv))) := by rw [ef2]; exact hm_us
    have h4 : f2 ((r 15)) = some (eI Γ 64 (fun j => (K1 j).2.1)) := by rw [ef2]; exact (hm_un (hrI 15 14 (by decide) (by decide) (by decide))).trans hk1
    have h5 : f2 ((r 16)) = some (eI Γ 64 (fun j => (K1 j).2.2.1)) := by rw [ef2]; exact (hm_un (hrI 16 14 (by decide) (by decide) (by decide))).trans hk2
    have h6 : f2 ((r 17)) = some (eI Γ 64 (fun j => (K1 j).2.2.2.1)) := by rw [ef2]; exact (hm_un (hrI 17 14 (by decide) (by decide) (by decide))).trans hk3
    have h7 : f2 ((r 18)) = some (eI Γ 64 (fun j => (K1 j).2.2.2.2.1)) := by rw [ef2]; exact (hm_un (hrI 18 14 (by decide) (by decide) (by decide))).trans hk4
    have h8 : f2 ((r 19)) = some (eI Γ 64 (fun j => (K1 j).2.2.2.2.2.1)) := by rw [ef2]; exact (hm_un (hrI 19 14 (by decide) (by decide) (by decide))).trans hk5
    have h9 : f2 ((r 20)) = some (eI Γ 64 (fun j => (K1 j).2.2.2.2.2.2)) := by rw [ef2]; exact (hm_un (hrI 20 14 (by decide) (by decide) (by decide))).trans hk6
    have h10 : f2 m0 = some (eM r mth mpl mga mtr (nI k1) (nI rr) mck mli mdz mgd mhi mmi mfh msh msm mso msp mrf) := by rw [ef2]; exact (hm_un (hm_ne hm1 hk0 (fun q => by cases q))).trans hm1
    have h11 : f2 ((r 21)) = some (eJ Γ 6 pb) := by rw [ef2]; exact (hm_un (hrI 21 14 (by decide) (by decide) (by decide))).trans hp0
    have h12 : f2 ((r 22)) = some (eI Γ 6 pz) := by rw [ef2]; exact (hm_un (hrI 22 14 (by decide) (by decide) (by decide))).trans hp1
    have h13 : f2 ((r 23)) = some (eI Γ 6 pd) := by rw [ef2]; exact (hm_un (hrI 23 14 (by decide) (by decide) (by decide))).trans hp2
    have h14 : f2 ((r 24)) = some (eI Γ 6 pn) := by rw [ef2]; exact (hm_un (hrI 24 14 (by decide) (by decide) (by decide))).trans hp3
    have h15 : f2 ((r 25)) = some (eI Γ 6 pe) := by rw [ef2]; exact (hm_un (hrI 25 14 (by decide) (by decide) (by decide))).trans hp4
    have h16 : f2 ((r 26)) = some (eI Γ 6 ph) := by rw [ef2]; exact (hm_un (hrI 26 14 (by decide) (by decide) (by decide))).trans hp5
    have h17 : f2 ((r 27)) = some (eI Γ 6 pg) := by rw [ef2]; exact (hm_un (hrI 27 14 (by decide) (by decide) (by decide))).trans hp6
    refine lv_aload_n hx hb dX8_keep_42 rfl (lv_at hl 0 rfl) ?_
    refine gf_X8_57 hx hb hts hown hK hH h10 rfl dX8_keep_43 ?_
    refine lv_aload_n hx hb dX8_keep_46 rfl (lv_at hl 0 rfl) ?_
    refine gf_X8_169 hx hb hts hown hK hH h10 rfl dX8_keep_47 ?_
    refine lv_aload_n hx hb dX8_keep_50 rfl (lv_at hl 0 rfl) ?_
    refine gf_X8_78 hx hb hts hown hK hH h10 rfl dX8_keep_51 ?_
    refine lv_iload_n hx hb dX8_keep_54 rfl (lv_at hl 1 rfl) ?_
    refine hm_iald hx hb hK hH h12 (vp_in_nI hlv (by decide)) dX8_keep_55 ?_
    refine lv_topi (fun v18 ev18 => ?_)
    replace ev18 : v18 = pz lv := ev18.trans (by show pz (nI lv).toNatClampNeg = _; rw [nI_clamp (by omega)])
    subst ev18
    refine hm_iast hx hb hK hO hS hH h4 (vp_in_nI hk64 (by decide)) dX8_keep_56 (fun H locs hH hS => ?_)
    obtain ⟨f19, ef19⟩ : ∃ zz_, zz_ = hm_up f2 ((r 15)) (eI Γ 64 (upd (fun j => (K1 j).2.1) (nI k1).toNatClampNeg (pz lv))) := ⟨_, rfl⟩
    have hH : hm_H Γ f19 H := by rw [ef19]; exact hH
    have h20 : f19 ((r 15)) = some (eI Γ 64 (upd (fun j => (K1 j).2.1) (nI k1).toNatClampNeg (pz lv))) := by rw [ef19]; exact hm_us
    have h21 : f19 ((r 14)) = some (eJ Γ 64 (vp_updL (fun j => (K1 j).1) (nI k1).toNatClampNeg (pb lv))) := by rw [ef19]; exact (hm_un (hrI 14 15 (by decide) (by decide) (by decide))).trans h3
    have h22 : f19 ((r 16)) = some (eI Γ 64 (fun j => (K1 j).2.2.1)) := by rw [ef19]; exact (hm_un (hrI 16 15 (by decide) (by decide) (by decide))).trans h5
    have h23 : f19 ((r 17)) = some (eI Γ 64 (fun j => (K1 j).2.2.2.1)) := by rw [ef19]; exact (hm_un (hrI 17 15 (by decide) (by decide) (by decide))).trans h6
    have h24 : f19 ((r 18)) = some (eI Γ 64 (fun j => (K1 j).2.2.2.2.1)) := by rw [ef19]; exact (hm_un (hrI 18 15 (by decide) (by decide) (by decide))).trans h7
    have h25 : f19 ((r 19)) = some (eI Γ 64 (fun j => (K1 j).2.2.2.2.2.1)) := by rw [ef19]; exact (hm_un (hrI 19 15 (by decide) (by decide) (by decide))).trans h8
    have h26 : f19 ((r 20)) = some (eI Γ 64 (fun j => (K1 j).2.2.2.2.2.2)) := by rw [ef19]; exact (hm_un (hrI 20 15 (by decide) (by decide) (by decide))).trans h9
    have h27 : f19 m0 = some (eM r mth mpl mga mtr (nI k1) (nI rr) mck mli mdz mgd mhi mmi mfh msh msm mso msp mrf) := by rw [ef19]; exact (hm_un (hm_ne h10 h4 (fun q => by cases q))).trans h10
    have h28 : f19 ((r 21)) = some (eJ Γ 6 pb) := by rw [ef19]; exact (hm_un (hrI 21 15 (by decide) (by decide) (by decide))).trans h11
    have h29 : f19 ((r 22)) = some (eI Γ 6 pz) := by rw [ef19]; exact (hm_un (hrI 22 15 (by decide) (by decide) (by decide))).trans h12
    have h30 : f19 ((r 23)) = some (eI Γ 6 pd) := by rw [ef19]; exact (hm_un (hrI 23 15 (by decide) (by decide) (by decide))).trans h13
    have h31 : f19 ((r 24)) = some (eI Γ 6 pn) := by rw [ef19]; exact (hm_un (hrI 24 15 (by decide) (by decide) (by decide))).trans h14
    have h32 : f19 ((r 25)) = some (eI Γ 6 pe) := by rw [ef19]; exact (hm_un (hrI 25 15 (by decide) (by decide) (by decide))).trans h15
    have h33 : f19 ((r 26)) = some (eI Γ 6 ph) := by rw [ef19]; exact (hm_un (hrI 26 15 (by decide) (by decide) (by decide))).trans h16
    have h34 : f19 ((r 27)) = some (eI Γ 6 pg) := by rw [ef19]; exact (hm_un (hrI 27 15 (by decide) (by decide) (by decide))).trans h17
    refine lv_aload_n hx hb dX8_keep_57 rfl (lv_at hl 0 rfl) ?_
    refine gf_X8_60 hx hb hts hown hK hH h27 rfl dX8_keep_58 ?_
    refine lv_aload_n hx hb dX8_keep_61 rfl (lv_at hl 0 rfl) ?_
    refine gf_X8_169 hx hb hts hown hK hH h27 rfl dX8_keep_62 ?_
    refine lv_aload_n hx hb dX8_keep_65 rfl (lv_at hl 0 rfl) ?_
    refine gf_X8_81 hx hb hts hown hK hH h27 rfl dX8_keep_66 ?_
    refine lv_iload_n hx hb dX8_keep_69 rfl (lv_at hl 1 rfl) ?_
    refine hm_iald hx hb hK hH h30 (vp_in_nI hlv (by decide)) dX8_keep_70 ?_
    refine lv_topi (fun v35 ev35 => ?_)
    replace ev35 : v35 = pd lv := ev35.trans (by show pd (nI lv).toNatClampNeg = _; rw [nI_clamp (by omega)])
    subst ev35
    refine hm_iast hx hb hK hO hS hH h22 (vp_in_nI hk64 (by decide)) dX8_keep_71 (fun H locs hH hS => ?_)
    obtain ⟨f36, ef36⟩ : ∃ zz_, zz_ = hm_up f19 ((r 16)) (eI Γ 64 (upd (fun j => (K1 j).2.2.1) (nI k1).toNatClampNeg (pd lv))) := ⟨_, rfl⟩
    have hH : hm_H Γ f36 H := by rw [ef36]; exact hH
    have h37 : f36 ((r 16)) = some (eI Γ 64 (upd (fun j => (K1 j).2.2.1) (nI k1).toNatClampNeg (pd lv))) := by rw [ef36]; exact hm_us
    have h38 : f36 ((r 14)) = some (eJ Γ 64 (vp_updL (fun j => (K1 j).1) (nI k1).toNatClampNeg (pb lv))) := by rw [ef36]; exact (hm_un (hrI 14 16 (by decide) (by decide) (by decide))).trans h21
    have h39 : f36 ((r 15)) = some (eI Γ 64 (upd (fun j => (K1 j).2.1) (nI k1).toNatClampNeg (pz lv))) := by rw [ef36]; exact (hm_un (hrI 15 16 (by decide) (by decide) (by decide))).trans h20
    have h40 : f36 ((r 17)) = some (eI Γ 64 (fun j => (K1 j).2.2.2.1)) := by rw [ef36]; exact (hm_un (hrI 17 16 (by decide) (by decide) (by decide))).trans h23
    have h41 : f36 ((r 18)) = some (eI Γ 64 (fun j => (K1 j).2.2.2.2.1)) := by rw [ef36]; exact (hm_un (hrI 18 16 (by decide) (by decide) (by decide))).trans h24
    have h42 : f36 ((r 19)) = some (eI Γ 64 (fun j => (K1 j).2.2.2.2.2.1)) := by rw [ef36]; exact (hm_un (hrI 19 16 (by decide) (by decide) (by decide))).trans h25
    have h43 : f36 ((r 20)) = some (eI Γ 64 (fun j => (K1 j).2.2.2.2.2.2)) := by rw [ef36]; exact (hm_un (hrI 20 16 (by decide) (by decide) (by decide))).trans h26
    have h44 : f36 m0 = some (eM r mth mpl mga mtr (nI k1) (nI rr) mck mli mdz mgd mhi mmi mfh msh msm mso msp mrf) := by rw [ef36]; exact (hm_un (hm_ne h27 h22 (fun q => by cases q))).trans h27
    have h45 : f36 ((r 21)) = some (eJ Γ 6 pb) := by rw [ef36]; exact (hm_un (hrI 21 16 (by decide) (by decide) (by decide))).trans h28
    have h46 : f36 ((r 22)) = some (eI Γ 6 pz) := by rw [ef36]; exact (hm_un (hrI 22 16 (by decide) (by decide) (by decide))).trans h29
    have h47 : f36 ((r 23)) = some (eI Γ 6 pd) := by rw [ef36]; exact (hm_un (hrI 23 16 (by decide) (by decide) (by decide))).trans h30
    have h48 : f36 ((r 24)) = some (eI Γ 6 pn) := by rw [ef36]; exact (hm_un (hrI 24 16 (by decide) (by decide) (by decide))).trans h31
    have h49 : f36 ((r 25)) = some (eI Γ 6 pe) := by rw [ef36]; exact (hm_un (hrI 25 16 (by decide) (by decide) (by decide))).trans h32
    have h50 : f36 ((r 26)) = some (eI Γ 6 ph) := by rw [ef36]; exact (hm_un (hrI 26 16 (by decide) (by decide) (by decide))).trans h33
    have h51 : f36 ((r 27)) = some (eI Γ 6 pg) := by rw [ef36]; exact (hm_un (hrI 27 16 (by decide) (by decide) (by decide))).trans h34
    refine lv_aload_n hx hb dX8_keep_72 rfl (lv_at hl 0 rfl) ?_
    refine gf_X8_63 hx hb hts hown hK hH h44 rfl dX8_keep_73 ?_
    refine lv_aload_n hx hb dX8_keep_76 rfl (lv_at hl 0 rfl) ?_
    refine gf_X8_169 hx hb hts hown hK hH h44 rfl dX8_keep_77 ?_
    refine lv_aload_n hx hb dX8_keep_80 rfl (lv_at hl 0 rfl) ?_
    refine gf_X8_87 hx hb hts hown hK hH h44 rfl dX8_keep_81 ?_
    refine lv_iload_n hx hb dX8_keep_84 rfl (lv_at hl 1 rfl) ?_
    refine hm_iald hx hb hK hH h49 (vp_in_nI hlv (by decide)) dX8_keep_85 ?_
    refine lv_topi (fun v52 ev52 => ?_)
    replace ev52 : v52 = pe lv := ev52.trans (by show pe (nI lv).toNatClampNeg = _; rw [nI_clamp (by omega)])
    subst ev52
    refine hm_iast hx hb hK hO hS hH h40 (vp_in_nI hk64 (by decide)) dX8_keep_86 (fun H locs hH hS => ?_)
    obtain ⟨f53, ef53⟩ : ∃ zz_, zz_ = hm_up f36 ((r 17)) (eI Γ 64 (upd (fun j => (K1 j).2.2.2.1) (nI k1).toNatClampNeg (pe lv))) := ⟨_, rfl⟩
    have hH : hm_H Γ f53 H := by rw [ef53]; exact hH
    have h54 : f53 ((r 17)) = some (eI Γ 64 (upd (fun j => (K1 j).2.2.2.1) (nI k1).toNatClampNeg (pe lv))) := by rw [ef53]; exact hm_us
    have h55 : f53 ((r 14)) = some (eJ Γ 64 (vp_updL (fun j => (K1 j).1) (nI k1).toNatClampNeg (pb lv))) := by rw [ef53]; exact (hm_un (hrI 14 17 (by decide) (by decide) (by decide))).trans h38
    have h56 : f53 ((r 15)) = some (eI Γ 64 (upd (fun j => (K1 j).2.1) (nI k1).toNatClampNeg (pz lv))) := by rw [ef53]; exact (hm_un (hrI 15 17 (by decide) (by decide) (by decide))).trans h39
    have h57 : f53 ((r 16)) = some (eI Γ 64 (upd (fun j => (K1 j).2.2.1) (nI k1).toNatClampNeg (pd lv))) := by rw [ef53]; exact (hm_un (hrI 16 17 (by decide) (by decide) (by decide))).trans h37
    have h58 : f53 ((r 18)) = some (eI Γ 64 (fun j => (K1 j).2.2.2.2.1)) := by rw [ef53]; exact (hm_un (hrI 18 17 (by decide) (by decide) (by decide))).trans h41
    have h59 : f53 ((r 19)) = some (eI Γ 64 (fun j => (K1 j).2.2.2.2.2.1)) := by rw [ef53]; exact (hm_un (hrI 19 17 (by decide) (by decide) (by decide))).trans h42
    have h60 : f53 ((r 20)) = some (eI Γ 64 (fun j => (K1 j).2.2.2.2.2.2)) := by rw [ef53]; exact (hm_un (hrI 20 17 (by decide) (by decide) (by decide))).trans h43
    have h61 : f53 m0 = some (eM r mth mpl mga mtr (nI k1) (nI rr) mck mli mdz mgd mhi mmi mfh msh msm mso msp mrf) := by rw [ef53]; exact (hm_un (hm_ne h44 h40 (fun q => by cases q))).trans h44
    have h62 : f53 ((r 21)) = some (eJ Γ 6 pb) := by rw [ef53]; exact (hm_un (hrI 21 17 (by decide) (by decide) (by decide))).trans h45
    have h63 : f53 ((r 22)) = some (eI Γ 6 pz) := by rw [ef53]; exact (hm_un (hrI 22 17 (by decide) (by decide) (by decide))).trans h46
    have h64 : f53 ((r 23)) = some (eI Γ 6 pd) := by rw [ef53]; exact (hm_un (hrI 23 17 (by decide) (by decide) (by decide))).trans h47
    have h65 : f53 ((r 24)) = some (eI Γ 6 pn) := by rw [ef53]; exact (hm_un (hrI 24 17 (by decide) (by decide) (by decide))).trans h48
    have h66 : f53 ((r 25)) = some (eI Γ 6 pe) := by rw [ef53]; exact (hm_un (hrI 25 17 (by decide) (by decide) (by decide))).trans h49
    have h67 : f53 ((r 26)) = some (eI Γ 6 ph) := by rw [ef53]; exact (hm_un (hrI 26 17 (by decide) (by decide) (by decide))).trans h50
    have h68 : f53 ((r 27)) = some (eI Γ 6 pg) := by rw [ef53]; exact (hm_un (hrI 27 17 (by decide) (by decide) (by decide))).trans h51
    refine lv_aload_n hx hb dX8_keep_87 rfl (lv_at hl 0 rfl) ?_
    refine gf_X8_66 hx hb hts hown hK hH h61 rfl dX8_keep_88 ?_
    refine lv_aload_n hx hb dX8_keep_91 rfl (lv_at hl 0 rfl) ?_
    refine gf_X8_169 hx hb hts hown hK hH h61 rfl dX8_keep_92 ?_
    refine lv_aload_n hx hb dX8_keep_95 rfl (lv_at hl 0 rfl) ?_
    refine gf_X8_90 hx hb hts hown hK hH h61 rfl dX8_keep_96 ?_
    refine lv_iload_n hx hb dX8_keep_99 rfl (lv_at hl 1 rfl) ?_
    refine hm_iald hx hb hK hH h67 (vp_in_nI hlv (by decide)) dX8_keep_100 ?_
    refine lv_topi (fun v69 ev69 => ?_)
    replace ev69 : v69 = ph lv := ev69.trans (by show ph (nI lv).toNatClampNeg = _; rw [nI_clamp (by omega)])
    subst ev69
    refine hm_iast hx hb hK hO hS hH h58 (vp_in_nI hk64 (by decide)) dX8_keep_101 (fun H locs hH hS => ?_)
    obtain ⟨f70, ef70⟩ : ∃ zz_, zz_ = hm_up f53 ((r 18)) (eI Γ 64 (upd (fun j => (K1 j).2.2.2.2.1) (nI k1).toNatClampNeg (ph lv))) := ⟨_, rfl⟩
    have hH : hm_H Γ f70 H := by rw [ef70]; exact hH
    have h71 : f70 ((r 18)) = some (eI Γ 64 (upd (fun j => (K1 j).2.2.2.2.1) (nI k1).toNatClampNeg (ph lv))) := by rw [ef70]; exact hm_us
    have h72 : f70 ((r 14)) = some (eJ Γ 64 (vp_updL (fun j => (K1 j).1) (nI k1).toNatClampNeg (pb lv))) := by rw [ef70]; exact (hm_un (hrI 14 18 (by decide) (by decide) (by decide))).trans h55
    have h73 : f70 ((r 15)) = some (eI Γ 64 (upd (fun j => (K1 j).2.1) (nI k1).toNatClampNeg (pz lv))) := by rw [ef70]; exact (hm_un (hrI 15 18 (by decide) (by decide) (by decide))).trans h56
    have h74 : f70 ((r 16)) = some (eI Γ 64 (upd (fun j => (K1 j).2.2.1) (nI k1).toNatClampNeg (pd lv))) := by rw [ef70]; exact (hm_un (hrI 16 18 (by decide) (by decide) (by decide))).trans h57
    have h75 : f70 ((r 17)) = some (eI Γ 64 (upd (fun j => (K1 j).2.2.2.1) (nI k1).toNatClampNeg (pe lv))) := by rw [ef70]; exact (hm_un (hrI 17 18 (by decide) (by decide) (by decide))).trans h54
    have h76 : f70 ((r 19)) = some (eI Γ 64 (fun j => (K1 j).2.2.2.2.2.1)) := by rw [ef70]; exact (hm_un (hrI 19 18 (by decide) (by decide) (by decide))).trans h59
    have h77 : f70 ((r 20)) = some (eI Γ 64 (fun j => (K1 j).2.2.2.2.2.2)) := by rw [ef70]; exact (hm_un (hrI 20 18 (by decide) (by decide) (by decide))).trans h60
    have h78 : f70 m0 = some (eM r mth mpl mga mtr (nI k1) (nI rr) mck mli mdz mgd mhi mmi mfh msh msm mso msp mrf) := by rw [ef70]; exact (hm_un (hm_ne h61 h58 (fun q => by cases q))).trans h61
    have h79 : f70 ((r 21)) = some (eJ Γ 6 pb) := by rw [ef70]; exact (hm_un (hrI 21 18 (by decide) (by decide) (by decide))).trans h62
    have h80 : f70 ((r 22)) = some (eI Γ 6 pz) := by rw [ef70]; exact (hm_un (hrI 22 18 (by decide) (by decide) (by decide))).trans h63
    have h81 : f70 ((r 23)) = some (eI Γ 6 pd) := by rw [ef70]; exact (hm_un (hrI 23 18 (by decide) (by decide) (by decide))).trans h64
    have h82 : f70 ((r 24)) = some (eI Γ 6 pn) := by rw [ef70]; exact (hm_un (hrI 24 18 (by decide) (by decide) (by decide))).trans h65
    have h83 : f70 ((r 25)) = some (eI Γ 6 pe) := by rw [ef70]; exact (hm_un (hrI 25 18 (by decide) (by decide) (by decide))).trans h66
    have h84 : f70 ((r 26)) = some (eI Γ 6 ph) := by rw [ef70]; exact (hm_un (hrI 26 18 (by decide) (by decide) (by decide))).trans h67
    have h85 : f70 ((r 27)) = some (eI Γ 6 pg) := by rw [ef70]; exact (hm_un (hrI 27 18 (by decide) (by decide) (by decide))).trans h68
    refine lv_aload_n hx hb dX8_keep_102 rfl (lv_at hl 0 rfl) ?_
    refine gf_X8_69 hx hb hts hown hK hH h78 rfl dX8_keep_103 ?_
    refine lv_aload_n hx hb dX8_keep_106 rfl (lv_at hl 0 rfl) ?_
    refine gf_X8_169 hx hb hts hown hK hH h78 rfl dX8_keep_107 ?_
    refine lv_aload_n hx hb dX8_keep_110 rfl (lv_at hl 0 rfl) ?_
    refine lv_dup hx hb dX8_keep_111 rfl ?_
    refine gf_X8_180 hx hb hts hown hK hH h78 rfl dX8_keep_112 ?_
    refine lv_iconst (v := 1) hx hb dX8_keep_115 (by decide) ?_
    refine lv_iadd hx hb dX8_keep_116 ?_
    refine lv_topi (fun v86 ev86 => ?_)
    replace ev86 : v86 = (mck + 1) := ev86.trans (rfl)
    subst ev86
    refine lv_dup_x1 hx hb dX8_keep_117 rfl rfl ?_
    refine pf_X8_180 hx hb hts hown hK hO hS hH h78 rfl (Nat.le_of_ble_eq_true rfl) rfl dX8_keep_118 (fun H locs hH hS => ?_)
    obtain ⟨f87, ef87⟩ : ∃ zz_, zz_ = hm_up f70 m0 (eM r mth mpl mga mtr (nI k1) (nI rr) ((mck + 1)) mli mdz mgd mhi mmi mfh msh msm mso msp mrf) := ⟨_, rfl⟩
    have hH : hm_H Γ f87 H := by rw [ef87]; exact hH
    have h88 : f87 m0 = some (eM r mth mpl mga mtr (nI k1) (nI rr) ((mck + 1)) mli mdz mgd mhi mmi mfh msh msm mso msp mrf) := by rw [ef87]; exact hm_us
    have h89 : f87 ((r 14)) = some (eJ Γ 64 (vp_updL (fun j => (K1 j).1) (nI k1).toNatClampNeg (pb lv))) := by rw [ef87]; exact (hm_un (hm_ne h72 h78 (fun q => by cases q))).trans h72
    have h90 : f87 ((r 15)) = some (eI Γ 64 (upd (fun j => (K1 j).2.1) (nI k1).toNatClampNeg (pz lv))) := by rw [ef87]; exact (hm_un (hm_ne h73 h78 (fun q => by cases q))).trans h73
    have h91 : f87 ((r 16)) = some (eI Γ 64 (upd (fun j => (K1 j).2.2.1) (nI k1).toNatClampNeg (pd lv))) := by rw [ef87]; exact (hm_un (hm_ne h74 h78 (fun q => by cases q))).trans h74
    have h92 : f87 ((r 17)) = some (eI Γ 64 (upd (fun j => (K1 j).2.2.2.1) (nI k1).toNatClampNeg (pe lv))) := by rw [ef87]; exact (hm_un (hm_ne h75 h78 (fun q => by cases q))).trans h75
    have h93 : f87 ((r 18)) = some (eI Γ 64 (upd (fun j => (K1 j).2.2.2.2.1) (nI k1).toNatClampNeg (ph lv))) := by rw [ef87]; exact (hm_un (hm_ne h71 h78 (fun q => by cases q))).trans h71
    have h94 : f87 ((r 19)) = some (eI Γ 64 (fun j => (K1 j).2.2.2.2.2.1)) := by rw [ef87]; exact (hm_un (hm_ne h76 h78 (fun q => by cases q))).trans h76
    have h95 : f87 ((r 20)) = some (eI Γ 64 (fun j => (K1 j).2.2.2.2.2.2)) := by rw [ef87]; exact (hm_un (hm_ne h77 h78 (fun q => by cases q))).trans h77
    have h96 : f87 ((r 21)) = some (eJ Γ 6 pb) := by rw [ef87]; exact (hm_un (hm_ne h79 h78 (fun q => by cases q))).trans h79
    have h97 : f87 ((r 22)) = some (eI Γ 6 pz) := by rw [ef87]; exact (hm_un (hm_ne h80 h78 (fun q => by cases q))).trans h80
    have h98 : f87 ((r 23)) = some (eI Γ 6 pd) := by rw [ef87]; exact (hm_un (hm_ne h81 h78 (fun q => by cases q))).trans h81
    have h99 : f87 ((r 24)) = some (eI Γ 6 pn) := by rw [ef87]; exact (hm_un (hm_ne h82 h78 (fun q => by cases q))).trans h82
    have h100 : f87 ((r 25)) = some (eI Γ 6 pe) := by rw [ef87]; exact (hm_un (hm_ne h83 h78 (fun q => by cases q))).trans h83
    have h101 : f87 ((r 26)) = some (eI Γ 6 ph) := by rw [ef87]; exact (hm_un (hm_ne h84 h78 (fun q => by cases q))).trans h84
    have h102 : f87 ((r 27)) = some (eI Γ 6 pg) := by rw [ef87]; exact (hm_un (hm_ne h85 h78 (fun q => by cases q))).trans h85
    refine hm_iast hx hb hK hO hS hH h94 (vp_in_nI hk64 (by decide)) dX8_keep_121 (fun H locs hH hS => ?_)
    obtain ⟨f103, ef103⟩ : ∃ zz_, zz_ = hm_up f87 ((r 19)) (eI Γ 64 (upd (fun j => (K1 j).2.2.2.2.2.1) (nI k1).toNatClampNeg ((mck + 1)))) := ⟨_, rfl⟩
    have hH : hm_H Γ f103 H := by rw [ef103]; exact hH
    have h104 : f103 ((r 19)) = some (eI Γ 64 (upd (fun j => (K1 j).2.2.2.2.2.1) (nI k1).toNatClampNeg ((mck + 1)))) := by rw [ef103]; exact hm_us
    have h105 : f103 ((r 14)) = some (eJ Γ 64 (vp_updL (fun j => (K1 j).1) (nI k1).toNatClampNeg (pb lv))) := by rw [ef103]; exact (hm_un (hrI 14 19 (by decide) (by decide) (by decide))).trans h89
    have h106 : f103 ((r 15)) = some (eI Γ 64 (upd (fun j => (K1 j).2.1) (nI k1).toNatClampNeg (pz lv))) := by rw [ef103]; exact (hm_un (hrI 15 19 (by decide) (by decide) (by decide))).trans h90
    have h107 : f103 ((r 16)) = some (eI Γ 64 (upd (fun j => (K1 j).2.2.1) (nI k1).toNatClampNeg (pd lv))) := by rw [ef103]; exact (hm_un (hrI 16 19 (by decide) (by decide) (by decide))).trans h91
    have h108 : f103 ((r 17)) = some (eI Γ 64 (upd (fun j => (K1 j).2.2.2.1) (nI k1).toNatClampNeg (pe lv))) := by rw [ef103]; exact (hm_un (hrI 17 19 (by decide) (by decide) (by decide))).trans h92
    have h109 : f103 ((r 18)) = some (eI Γ 64 (upd (fun j => (K1 j).2.2.2.2.1) (nI k1).toNatClampNeg (ph lv))) := by rw [ef103]; exact (hm_un (hrI 18 19 (by decide) (by decide) (by decide))).trans h93
    have h110 : f103 ((r 20)) = some (eI Γ 64 (fun j => (K1 j).2.2.2.2.2.2)) := by rw [ef103]; exact (hm_un (hrI 20 19 (by decide) (by decide) (by decide))).trans h95
    have h111 : f103 m0 = some (eM r mth mpl mga mtr (nI k1) (nI rr) ((mck + 1)) mli mdz mgd mhi mmi mfh msh msm mso msp mrf) := by rw [ef103]; exact (hm_un (hm_ne h88 h94 (fun q => by cases q))).trans h88
    have h112 : f103 ((r 21)) = some (eJ Γ 6 pb) := by rw [ef103]; exact (hm_un (hrI 21 19 (by decide) (by decide) (by decide))).trans h96
    have h113 : f103 ((r 22)) = some (eI Γ 6 pz) := by rw [ef103]; exact (hm_un (hrI 22 19 (by decide) (by decide) (by decide))).trans h97
    have h114 : f103 ((r 23)) = some (eI Γ 6 pd) := by rw [ef103]; exact (hm_un (hrI 23 19 (by decide) (by decide) (by decide))).trans h98
    have h115 : f103 ((r 24)) = some (eI Γ 6 pn) := by rw [ef103]; exact (hm_un (hrI 24 19 (by decide) (by decide) (by decide))).trans h99
    have h116 : f103 ((r 25)) = some (eI Γ 6 pe) := by rw [ef103]; exact (hm_un (hrI 25 19 (by decide) (by decide) (by decide))).trans h100
    have h117 : f103 ((r 26)) = some (eI Γ 6 ph) := by rw [ef103]; exact (hm_un (hrI 26 19 (by decide) (by decide) (by decide))).trans h101
    have h118 : f103 ((r 27)) = some (eI Γ 6 pg) := by rw [ef103]; exact (hm_un (hrI 27 19 (by decide) (by decide) (by decide))).trans h102
    refine lv_aload_n hx hb dX8_keep_122 rfl (lv_at hl 0 rfl) ?_
    refine gf_X8_72 hx hb hts hown hK hH h111 rfl dX8_keep_123 ?_
    refine lv_aload_n hx hb dX8_keep_126 rfl (lv_at hl 0 rfl) ?_
    refine gf_X8_169 hx hb hts hown hK hH h111 rfl dX8_keep_127 ?_
    refine lv_iconst (v := 0) hx hb dX8_keep_130 (by decide) ?_
    refine hm_iast hx hb hK hO hS hH h110 (vp_in_nI hk64 (by decide)) dX8_keep_131 (fun H locs hH hS => ?_)
    obtain ⟨f119, ef119⟩ : ∃ zz_, zz_ = hm_up f103 ((r 20)) (eI Γ 64 (upd (fun j => (K1 j).2.2.2.2.2.2) (nI k1).toNatClampNeg 0)) := ⟨_, rfl⟩
    have hH : hm_H Γ f119 H := by rw [ef119]; exact hH
    have h120 : f119 ((r 20)) = some (eI Γ 64 (upd (fun j => (K1 j).2.2.2.2.2.2) (nI k1).toNatClampNeg 0)) := by rw [ef119]; exact hm_us
    have h121 : f119 ((r 14)) = some (eJ Γ 64 (vp_updL (fun j => (K1 j).1) (nI k1).toNatClampNeg (pb lv))) := by rw [ef119]; exact (hm_un (hrI 14 20 (by decide) (by decide) (by decide))).trans h105
    have h122 : f119 ((r 15)) = some (eI Γ 64 (upd (fun j => (K1 j).2.1) (nI k1).toNatClampNeg (pz lv))) := by rw [ef119]; exact (hm_un (hrI 15 20 (by decide) (by decide) (by decide))).trans h106
    have h123 : f119 ((r 16)) = some (eI Γ 64 (upd (fun j => (K1 j).2.2.1) (nI k1).toNatClampNeg (pd lv))) := by rw [ef119]; exact (hm_un (hrI 16 20 (by decide) (by decide) (by decide))).trans h107
    have h124 : f119 ((r 17)) = some (eI Γ 64 (upd (fun j => (K1 j).2.2.2.1) (nI k1).toNatClampNeg (pe lv))) := by rw [ef119]; exact (hm_un (hrI 17 20 (by decide) (by decide) (by decide))).trans h108
    have h125 : f119 ((r 18)) = some (eI Γ 64 (upd (fun j => (K1 j).2.2.2.2.1) (nI k1).toNatClampNeg (ph lv))) := by rw [ef119]; exact (hm_un (hrI 18 20 (by decide) (by decide) (by decide))).trans h109
    have h126 : f119 ((r 19)) = some (eI Γ 64 (upd (fun j => (K1 j).2.2.2.2.2.1) (nI k1).toNatClampNeg ((mck + 1)))) := by rw [ef119]; exact (hm_un (hrI 19 20 (by decide) (by decide) (by decide))).trans h104
    have h127 : f119 m0 = some (eM r mth mpl mga mtr (nI k1) (nI rr) ((mck + 1)) mli mdz mgd mhi mmi mfh msh msm mso msp mrf) := by rw [ef119]; exact (hm_un (hm_ne h111 h110 (fun q => by cases q))).trans h111
    have h128 : f119 ((r 21)) = some (eJ Γ 6 pb) := by rw [ef119]; exact (hm_un (hrI 21 20 (by decide) (by decide) (by decide))).trans h112
    have h129 : f119 ((r 22)) = some (eI Γ 6 pz) := by rw [ef119]; exact (hm_un (hrI 22 20 (by decide) (by decide) (by decide))).trans h113
    have h130 : f119 ((r 23)) = some (eI Γ 6 pd) := by rw [ef119]; exact (hm_un (hrI 23 20 (by decide) (by decide) (by decide))).trans h114
    have h131 : f119 ((r 24)) = some (eI Γ 6 pn) := by rw [ef119]; exact (hm_un (hrI 24 20 (by decide) (by decide) (by decide))).trans h115
    have h132 : f119 ((r 25)) = some (eI Γ 6 pe) := by rw [ef119]; exact (hm_un (hrI 25 20 (by decide) (by decide) (by decide))).trans h116
    have h133 : f119 ((r 26)) = some (eI Γ 6 ph) := by rw [ef119]; exact (hm_un (hrI 26 20 (by decide) (by decide) (by decide))).trans h117
    have h134 : f119 ((r 27)) = some (eI Γ 6 pg) := by rw [ef119]; exact (hm_un (hrI 27 20 (by decide) (by decide) (by decide))).trans h118
    refine lv_aload_n hx hb dX8_keep_132 rfl (lv_at hl 0 rfl) ?_
    refine lv_dup hx hb dX8_keep_133 rfl ?_
    refine gf_X8_169 hx hb hts hown hK hH h127 rfl dX8_keep_134 ?_
    refine lv_iconst (v := 1) hx hb dX8_keep_137 (by decide) ?_
    refine lv_iadd hx hb dX8_keep_138 ?_
    refine lv_topi (fun v135 ev135 => ?_)
    replace ev135 : v135 = nI (k1 + 1) := ev135.trans (nI_1 k1)
    subst ev135
    refine pf_X8_169 hx hb hts hown hK hO hS hH h127 rfl (Nat.le_of_ble_eq_true rfl) rfl dX8_keep_139 (fun H locs hH hS => ?_)
    obtain ⟨f136, ef136⟩ : ∃ zz_, zz_ = hm_up f119 m0 (eM r mth mpl mga mtr (nI (k1 + 1)) (nI rr) ((mck + 1)) mli mdz mgd mhi mmi mfh msh msm mso msp mrf) := ⟨_, rfl⟩
    have hH : hm_H Γ f136 H := by rw [ef136]; exact hH
    have h137 : f136 m0 = some (eM r mth mpl mga mtr (nI (k1 + 1)) (nI rr) ((mck + 1)) mli mdz mgd mhi mmi mfh msh msm mso msp mrf) := by rw [ef136]; exact hm_us
    have h138 : f136 ((r 14)) = some (eJ Γ 64 (vp_updL (fun j => (K1 j).1) (nI k1).toNatClampNeg (pb lv))) := by rw [ef136]; exact (hm_un (hm_ne h121 h127 (fun q => by cases q))).trans h121
    have h139 : f136 ((r 15)) = some (eI Γ 64 (upd (fun j => (K1 j).2.1) (nI k1).toNatClampNeg (pz lv))) := by rw [ef136]; exact (hm_un (hm_ne h122 h127 (fun q => by cases q))).trans h122
    have h140 : f136 ((r 16)) = some (eI Γ 64 (upd (fun j => (K1 j).2.2.1) (nI k1).toNatClampNeg (pd lv))) := by rw [ef136]; exact (hm_un (hm_ne h123 h127 (fun q => by cases q))).trans h123
    have h141 : f136 ((r 17)) = some (eI Γ 64 (upd (fun j => (K1 j).2.2.2.1) (nI k1).toNatClampNeg (pe lv))) := by rw [ef136]; exact (hm_un (hm_ne h124 h127 (fun q => by cases q))).trans h124
    have h142 : f136 ((r 18)) = some (eI Γ 64 (upd (fun j => (K1 j).2.2.2.2.1) (nI k1).toNatClampNeg (ph lv))) := by rw [ef136]; exact (hm_un (hm_ne h125 h127 (fun q => by cases q))).trans h125
    have h143 : f136 ((r 19)) = some (eI Γ 64 (upd (fun j => (K1 j).2.2.2.2.2.1) (nI k1).toNatClampNeg ((mck + 1)))) := by rw [ef136]; exact (hm_un (hm_ne h126 h127 (fun q => by cases q))).trans h126
    have h144 : f136 ((r 20)) = some (eI Γ 64 (upd (fun j => (K1 j).2.2.2.2.2.2) (nI k1).toNatClampNeg 0)) := by rw [ef136]; exact (hm_un (hm_ne h120 h127 (fun q => by cases q))).trans h120
    have h145 : f136 ((r 21)) = some (eJ Γ 6 pb) := by rw [ef136]; exact (hm_un (hm_ne h128 h127 (fun q => by cases q))).trans h128
    have h146 : f136 ((r 22)) = some (eI Γ 6 pz) := by rw [ef136]; exact (hm_un (hm_ne h129 h127 (fun q => by cases q))).trans h129
    have h147 : f136 ((r 23)) = some (eI Γ 6 pd) := by rw [ef136]; exact (hm_un (hm_ne h130 h127 (fun q => by cases q))).trans h130
    have h148 : f136 ((r 24)) = some (eI Γ 6 pn) := by rw [ef136]; exact (hm_un (hm_ne h131 h127 (fun q => by cases q))).trans h131
    have h149 : f136 ((r 25)) = some (eI Γ 6 pe) := by rw [ef136]; exact (hm_un (hm_ne h132 h127 (fun q => by cases q))).trans h132
    have h150 : f136 ((r 26)) = some (eI Γ 6 ph) := by rw [ef136]; exact (hm_un (hm_ne h133 h127 (fun q => by cases q))).trans h133
    have h151 : f136 ((r 27)) = some (eI Γ 6 pg) := by rw [ef136]; exact (hm_un (hm_ne h134 h127 (fun q => by cases q))).trans h134
    have hKA2 : KA Γ f136 r (setK K1 k1 (pb lv, pz lv, pd lv, pe lv, ph lv, mck + 1, 0)) := ⟨(by have z_ := h138; rw [nI_clamp (n := k1) (by omega)] at z_; exact z_.trans (congrArg some (congrArg (eJ Γ 64) (updL_fun (fun x : EV => x.1) K1 k1 (pb lv, pz lv, pd lv, pe lv, ph lv, mck + 1, 0))))), (by have z_ := h139; rw [nI_clamp (n := k1) (by omega)] at z_; exact z_.trans (congrArg some (congrArg (eI Γ 64) (upd_fun (fun x : EV => x.2.1) K1 k1 (pb lv, pz lv, pd lv, pe lv, ph lv, mck + 1, 0))))), (by have z_ := h140; rw [nI_clamp (n := k1) (by omega)] at z_; exact z_.trans (congrArg some (congrArg (eI Γ 64) (upd_fun (fun x : EV => x.2.2.1) K1 k1 (pb lv, pz lv, pd lv, pe lv, ph lv, mck + 1, 0))))), (by have z_ := h141; rw [nI_clamp (n := k1) (by omega)] at z_; exact z_.trans (congrArg some (congrArg (eI Γ 64) (upd_fun (fun x : EV => x.2.2.2.1) K1 k1 (pb lv, pz lv, pd lv, pe lv, ph lv, mck + 1, 0))))), (by have z_ := h142; rw [nI_clamp (n := k1) (by omega)] at z_; exact z_.trans (congrArg some (congrArg (eI Γ 64) (upd_fun (fun x : EV => x.2.2.2.2.1) K1 k1 (pb lv, pz lv, pd lv, pe lv, ph lv, mck + 1, 0))))), (by have z_ := h143; rw [nI_clamp (n := k1) (by omega)] at z_; exact z_.trans (congrArg some (congrArg (eI Γ 64) (upd_fun (fun x : EV => x.2.2.2.2.2.1) K1 k1 (pb lv, pz lv, pd lv, pe lv, ph lv, mck + 1, 0))))), (by have z_ := h144; rw [nI_clamp (n := k1) (by omega)] at z_; exact z_.trans (congrArg some (congrArg (eI Γ 64) (upd_fun (fun x : EV => x.2.2.2.2.2.2) K1 k1 (pb lv, pz lv, pd lv, pe lv, ph lv, mck + 1, 0)))))⟩
    have hfr2 : hm_fr (kS m0 r) f f136 := by
      rw [ef136]
      rw [ef119]
      rw [ef103]
      rw [ef87]
      rw [ef70]
      rw [ef53]
      rw [ef36]
      rw [ef19]
      rw [ef2]
      exact (((((((((hfr).up (Or.inr ⟨14, by decide, by decide, rfl⟩)).up (Or.inr ⟨15, by decide, by decide, rfl⟩)).up (Or.inr ⟨16, by decide, by decide, rfl⟩)).up (Or.inr ⟨17, by decide, by decide, rfl⟩)).up (Or.inr ⟨18, by decide, by decide, rfl⟩)).up (Or.inl rfl)).up (Or.inr ⟨19, by decide, by decide, rfl⟩)).up (Or.inr ⟨20, by decide, by decide, rfl⟩)).up (Or.inl rfl)
    exact hm_vret hx hb hr hlocks hS hH (⟨rfl, by rw [heq]; exact h137, by rw [heq]; exact hKA2, hfr2⟩) (Nat.le_of_ble_eq_true rfl) (Nat.le_of_ble_eq_true rfl) dX8_keep_142
  refine lv_aload_n hx hb dX8_keep_0 rfl (lv_at hl 0 rfl) ?_
  refine gf_X8_169 hx hb hts hown hK hH hm0 rfl dX8_keep_1 ?_
  refine lv_aload_n hx hb dX8_keep_4 rfl (lv_at hl 0 rfl) ?_
  refine gf_X8_96 hx hb hts hown hK hH hm0 rfl dX8_keep_5 ?_
  refine lv_icmp_ne (tgt := 27) hx hb dX8_keep_8 (by decide) (fun c1 => ?_) (fun c1 => ?_)
  · have hkr2 : ¬ kp = rr := fun q => c1 (by rw [q])
    exact tail f K kp (by omega) hm0 hKA hm_fr.rf (keepM_add (q := (K, kp, mck)) hkr2) s.heap [] hH hS ls (lv_sub hl [0, 1] rfl)
  · refine lv_aload_n hx hb dX8_keep_11 rfl (lv_at hl 0 rfl) ?_
    refine hm_callV (rest := []) (k := 1) q5_225 q5_227 q1_9 q5_228 q0_29 rfl nm_X8_oldest rfl hx hb hml hown hts hK hO hS hH hl.1 hm0 (c_X8_oldest Γ l m0 r mth mpl mga mtr (nI rr) mck mli mdz mgd mhi mmi mfh msh msm mso msp mrf kp K f hm0 hKA (by omega)) ⟨Nat.le_of_ble_eq_true rfl, Nat.le_of_ble_eq_true rfl⟩ ⟨Nat.le_of_ble_eq_true rfl, Nat.le_of_ble_eq_true rfl⟩ rfl (Nat.le_of_ble_eq_true rfl) dX8_keep_12 (fun v_ f_ H locs hp_ hH hS => ?_)
    obtain ⟨hp_, ef_⟩ := hp_
    rw [ef_] at hH
    clear ef_
    rcases hp_ with ⟨ho, rfl⟩ | ⟨o, ho, rfl⟩
    · refine W.eq (g2 := F0 m 15 ls [.int (-1)]) rfl ?_
      refine lv_istore_n (lv' := [(2, .int ((-1))), (0, .ref m0), (1, .int (nI lv))]) hx hb dX8_keep_15 rfl hl (by decide) rfl (fun ls hl => ?_)
      refine lv_iload_n hx hb dX8_keep_16 rfl (lv_at hl 0 rfl) ?_
      refine lv_iconst (v := (-1)) hx hb dX8_keep_17 (by decide) ?_
      refine lv_icmp_ne (tgt := 22) hx hb dX8_keep_18 (by decide) (fun c2 => absurd (by decide) c2) (fun _ => ?_)
      exact hm_vret hx hb hr hlocks hS hH (⟨rfl, by rw [keepM_no (q := (K, kp, mck)) (show kp = rr from (nI_eq (by omega) (by omega)).mp c1) ho]; exact hm0, by rw [keepM_no (q := (K, kp, mck)) (show kp = rr from (nI_eq (by omega) (by omega)).mp c1) ho]; exact hKA, hm_fr.rf⟩) (Nat.le_of_ble_eq_true rfl) (Nat.le_of_ble_eq_true rfl) dX8_keep_21
    · refine W.eq (g2 := F0 m 15 ls [.int (nI o)]) rfl ?_
      have hoi := oldM_lt ho
      refine lv_istore_n (lv' := [(2, .int (nI o)), (0, .ref m0), (1, .int (nI lv))]) hx hb dX8_keep_15 rfl hl (by decide) rfl (fun ls hl => ?_)
      refine lv_iload_n hx hb dX8_keep_16 rfl (lv_at hl 0 rfl) ?_
      refine lv_iconst (v := (-1)) hx hb dX8_keep_17 (by decide) ?_
      refine lv_icmp_ne (tgt := 22) hx hb dX8_keep_18 (by decide) (fun _ => ?_) (fun c3 => absurd c3 (fun q => absurd (show (nI o) < 0 by rw [q]; decide) (nI_pos (by omega))))
      refine lv_aload_n hx hb dX8_keep_22 rfl (lv_at hl 1 rfl) ?_
      refine lv_iload_n hx hb dX8_keep_23 rfl (lv_at hl 0 rfl) ?_
      refine hm_callV (rest := []) (k := 1) q5_229 q5_231 q1_9 q5_232 q0_30 rfl nm_X8_drop rfl hx hb hml hown hts hK hO hS hH hl.1 hm0 (c_X8_drop Γ l m0 r mth mpl mga mtr (nI rr) mck mli mdz mgd mhi mmi mfh msh msm mso msp mrf kp K o f hm0 hKA (by omega) hrI hoi) ⟨Nat.le_of_ble_eq_true rfl, Nat.le_of_ble_eq_true rfl⟩ ⟨Nat.le_of_ble_eq_true rfl, Nat.le_of_ble_eq_true rfl⟩ rfl (Nat.le_of_ble_eq_true rfl) dX8_keep_24 (fun v_ f2_ H locs hp_ hH hS => ?_)
      obtain ⟨rfl, hm2, hKA2, hfr2⟩ := hp_
      refine W.eq (g2 := F0 m 27 ls []) rfl ?_
      have hkr2 : kp = rr := (nI_eq (by omega) (by omega)).mp c1
      exact tail f2_ _ (kp - 1) (by omega) hm2 hKA2 hfr2 (keepM_drop (q := (K, kp, mck)) hkr2 ho) H locs hH hS ls (lv_sub hl [1, 2] rfl)
