/-! the model: worthOf, by a pile of states -/
theorem PAkp {Γ : Gm} {f f' : Hm} {m0 : Nat} {r : Nat → Nat} {pb : Nat → Int64} {pz pd pn pe ph pg : Nat → Int32} {x : Nat × List Value} (h : PA Γ f r pb pz pd pn pe ph pg) (hm : f m0 = some (.inr x)) (hrI : rI r) (h1 : hm_fr (kS m0 r) f f') : PA Γ f' r pb pz pd pn pe ph pg := by
  obtain ⟨p1, p2, p3, p4, p5, p6, p7⟩ := h
  have hn : ∀ k x, 21 ≤ k → k < 28 → f (r k) = some (.inl x) → ¬ kS m0 r (r k) := by
    rintro k x h21 h28 hx (q | ⟨j, j1, j2, q⟩)
    · exact hm_ne hx hm (fun z => by cases z) q
    · exact hrI k j h28 (by omega) (by omega) q
  exact ⟨(h1 _ (hn 21 _ (by decide) (by decide) p1)).trans p1, (h1 _ (hn 22 _ (by decide) (by decide) p2)).trans p2, (h1 _ (hn 23 _ (by decide) (by decide) p3)).trans p3, (h1 _ (hn 24 _ (by decide) (by decide) p4)).trans p4, (h1 _ (hn 25 _ (by decide) (by decide) p5)).trans p5, (h1 _ (hn 26 _ (by decide) (by decide) p6)).trans p6, (h1 _ (hn 27 _ (by decide) (by decide) p7)).trans p7⟩
theorem kset_p {α : Type} (p : EV → α) {K : Nat → EV} {i : Nat} {y : EV} (h : p y = p (K i)) : (fun j => p (K j)) = fun j => p (setK K i y j) := by
  funext j
  unfold setK
  split
  · rename_i q; rw [q, h]
  · rfl
theorem lev_p (L : Nat) : nI (L + 1) + (-1) = nI L := by rw [← nI_1 L, Int32.add_assoc]; exact Int32.add_zero _
/-- the model's world with cache and counts S -/
abbrev HD (Γ : Gm) (f : Hm) (m0 : Nat) (r : Nat → Nat) (mth mpl mga mtr mli msh msm mso : Int32) (msp mrf : Int64) (rr : Nat) (S : MT) (dz gd fh : Int32) (pb : Nat → Int64) (pz pd pn pe ph pg : Nat → Int32) : Prop :=
  f m0 = some (eM r mth mpl mga mtr (nI S.2.1) (nI rr) S.2.2.1 mli dz gd S.2.2.2.1 S.2.2.2.2 fh msh msm mso msp mrf) ∧ KA Γ f r S.1 ∧ PA Γ f r pb pz pd pn pe ph pg
set_option maxHeartbeats 4000000 in
set_option maxRecDepth 100000 in
theorem c_X8_worthOf (Γ : Gm) (l : Launch) (m0 : Nat) (r : Nat → Nat) (mth mpl mga mtr mli msh msm mso : Int32) (msp mrf : Int64) (rr : Nat) (cb : Bool) (S0 : MT) (dz0 gd0 fh0 : Int32) (pb0 : Nat → Int64) (pz0 pd0 pn0 pe0 ph0 pg0 : Nat → Int32) (t0 : Nat → Nat) (z0 d0 : Nat) (f : Hm) (hHd0 : HD Γ f m0 r mth mpl mga mtr mli msh msm mso msp mrf rr S0 dz0 gd0 fh0 pb0 pz0 pd0 pn0 pe0 ph0 pg0) (hrI : rI r) (hrr : rr ≤ 64) (hr1 : 1 ≤ rr) (hmo0 : mokA rr S0) (hd0 : d0 ≤ 4) (hw0 : wt t0 + 4 * d0 ≤ 4000) (hz0 : z0 < 2 ^ 31) : Ct Γ l yX8_worthOf cX8_worthOf 11 (some .int) 4 0 0 [.ref m0, .long (b4 t0), .int (nI z0), .int (nI d0), .int (bI cb)] f (fun v f' => v = some (.int (nI (wp d0 t0 z0).1)) ∧ (∃ (dz2 gd2 : Int32) (pb2 : Nat → Int64) (pz2 pd2 pn2 pe2 ph2 pg2 : Nat → Int32), HD Γ f' m0 r mth mpl mga mtr mli msh msm mso msp mrf rr ((trM cb rr d0 t0 z0 S0)) dz2 gd2 ((wp d0 t0 z0).2) pb2 pz2 pd2 pn2 pe2 ph2 pg2) ∧ hm_fr (wS m0 r) f f') := by
  refine Ct_of (by decide +kernel) (Nat.le_of_ble_eq_true rfl) ?_
  intro p e s m args below meth c hx hb hr hml hown hin hlocks hts hH hO hK ls hl
  have hl : lv_has ls 11 [(0, .ref m0), (1, .long (b4 t0)), (3, .int (nI z0)), (4, .int (nI d0)), (5, .int (bI cb))] := hl
  have hS : va_S (gA Γ) s.heap s.heap [] := va_S.rf
  have run : ∀ (d : Nat), d ≤ 4 → ∀ (L : Nat) (t : Nat → Nat) (z : Nat) (S : MT) (f1 : Hm) (dz gd fh fo : Int32) (pb : Nat → Int64) (pz pd pn pe ph pg : Nat → Int32), L + d ≤ 5 → wt t + 4 * d ≤ 4000 → z < 2 ^ 31 → mokA rr S → HD Γ f1 m0 r mth mpl mga mtr mli msh msm mso msp mrf rr S dz gd fh pb pz pd pn pe ph pg → pb L = b4 t → pz L = nI z → pd L = nI d → hm_fr (wS m0 r) f f1 → (∀ (f2 : Hm) (dz2 gd2 : Int32) (pb2 : Nat → Int64) (pz2 pd2 pn2 pe2 ph2 pg2 : Nat → Int32), HD Γ f2 m0 r mth mpl mga mtr mli msh msm mso msp mrf rr ((trM cb rr d t z S)) dz2 gd2 ((wp d t z).2) pb2 pz2 pd2 pn2 pe2 ph2 pg2 → (∀ j, j < L → pb2 j = pb j ∧ pz2 j = pz j ∧ pd2 j = pd j ∧ pn2 j = pn j ∧ pe2 j = pe j ∧ ph2 j = ph j ∧ pg2 j = pg j) → hm_fr (wS m0 r) f f2 → ∀ (H : Heap) (locs : List Loc), hm_H Γ f2 H → va_S (gA Γ) s.heap H locs → ∀ ls : Array Slot, lv_has ls 11 [(6, .int (nI L + (-1))), (7, .int (nI (wp d t z).1)), (8, .int 0), (5, .int (bI cb)), (0, .ref m0)] → W p l e (rmk 4 0 0) s m args below meth c H locs 0 0 (MQ below (hm_Q Γ (fun v f' => v = some (.int (nI (wp d0 t0 z0).1)) ∧ (∃ (dz2 gd2 : Int32) (pb2 : Nat → Int64) (pz2 pd2 pn2 pe2 ph2 pg2 : Nat → Int32), HD Γ f' m0 r mth mpl mga mtr mli msh msm mso msp mrf rr ((trM cb rr d0 t0 z0 S0)) dz2 gd2 ((wp d0 t0 z0).2) pb2 pz2 pd2 pn2 pe2 ph2 pg2) ∧ hm_fr (wS m0 r) f f')) args s 0 0 (gA Γ)) (F0 m 31 ls [])) → ∀ (H : Heap) (locs : List Loc), hm_H Γ f1 H → va_S (gA Γ) s.heap H locs → ∀ ls : Array Slot, lv_has ls 11 [(6, .int (nI L)), (7, .int fo), (8, .int 1), (5, .int (bI cb)), (0, .ref m0)] → W p l e (rmk 4 0 0) s m args below meth c H locs 0 0 (MQ below (hm_Q Γ (fun v f' => v = some (.int (nI (wp d0 t0 z0).1)) ∧ (∃ (dz2 gd2 : Int32) (pb2 : Nat → Int64) (pz2 pd2 pn2 pe2 ph2 pg2 : Nat → Int32), HD Γ f' m0 r mth mpl mga mtr mli msh msm mso msp mrf rr ((trM cb rr d0 t0 z0 S0)) dz2 gd2 ((wp d0 t0 z0).2) pb2 pz2 pd2 pn2 pe2 ph2 pg2) ∧ hm_fr (wS m0 r) f f')) args s 0 0 (gA Γ)) (F0 m 31 ls []) := by
    intro d
    induction d with
    | zero =>
      intro hd4 L t z S f1 dz gd fh fo pb pz pd pn pe ph pg hLd hw hz hmo hHd hpb hpz hpd hfr K H locs hH hS ls hl
      obtain ⟨hm1, hKA1, hPA1⟩ := id hHd
      obtain ⟨hk0, hk1, hk2, hk3, hk4, hk5, hk6⟩ := id hKA1
      obtain ⟨hp0, hp1, hp2, hp3, hp4, hp5, hp6⟩ := id hPA1
      refine lv_iload hx hb dX8_worthOf_31 (lv_at hl 0 rfl) ?_
      refine lv_if_lt (tgt := 500) hx hb dX8_worthOf_33 (by decide) (fun c1 => absurd c1 (nI_pos (by omega))) (fun _ => ?_)
      refine lv_iload hx hb dX8_worthOf_36 (lv_at hl 2 rfl) ?_
      refine lv_if_eq (tgt := 233) hx hb dX8_worthOf_38 (by decide) (fun c2 => absurd c2 (by decide)) (fun _ => ?_)
      refine lv_iconst (v := 0) hx hb dX8_worthOf_41 (by decide) ?_
      refine lv_istore (lv' := [(8, .int 0), (6, .int (nI L)), (7, .int fo), (5, .int (bI cb)), (0, .ref m0)]) hx hb dX8_worthOf_42 hl (by decide) rfl (fun ls hl => ?_)
      refine lv_iload hx hb dX8_worthOf_44 (lv_at hl 3 rfl) ?_
      refine lv_if_eq (tgt := 87) hx hb dX8_worthOf_46 (by decide) (fun c3 => ?_) (fun c3 => ?_)
      · refine lv_iconst (v := (-1)) hx hb dX8_worthOf_87 (by decide) ?_
        refine lv_istore (lv' := [(9, .int ((-1))), (8, .int 0), (6, .int (nI L)), (7, .int fo), (5, .int (bI cb)), (0, .ref m0)]) hx hb dX8_worthOf_88 hl (by decide) rfl (fun ls hl => ?_)
        refine lv_aload_n hx hb dX8_worthOf_90 rfl (lv_at hl 5 rfl) ?_
        refine gf_X8_81 hx hb hts hown hK hH hm1 rfl dX8_worthOf_91 ?_
        refine lv_iload hx hb dX8_worthOf_94 (lv_at hl 2 rfl) ?_
        refine hm_iald hx hb hK hH hp2 (vp_in_nI (show L < 6 by omega) (by decide)) dX8_worthOf_96 ?_
        refine lv_topi (fun v4 ev4 => ?_)
        replace ev4 : v4 = nI 0 := ev4.trans (by show pd (nI L).toNatClampNeg = _; rw [nI_clamp (n := L) (by omega)]; exact hpd)
        subst ev4
        refine lv_if_eq (tgt := 106) hx hb dX8_worthOf_97 (by decide) (fun _ => ?_) (fun c5 => absurd (rfl) c5)
        refine lv_iload hx hb dX8_worthOf_106 (lv_at hl 0 rfl) ?_
        refine lv_iconst (v := (-1)) hx hb dX8_worthOf_108 (by decide) ?_
        refine lv_icmp_ne (tgt := 116) hx hb dX8_worthOf_109 (by decide) (fun c6 => absurd (by decide) c6) (fun _ => ?_)
        refine lv_iconst (v := 0) hx hb dX8_worthOf_112 (by decide) ?_
        refine lv_goto (tgt := 123) hx hb dX8_worthOf_113 (by decide) ?_
        refine lv_istore (lv' := [(7, .int 0), (9, .int ((-1))), (8, .int 0), (6, .int (nI L)), (5, .int (bI cb)), (0, .ref m0)]) hx hb dX8_worthOf_123 hl (by decide) rfl (fun ls hl => ?_)
        refine lv_aload_n hx hb dX8_worthOf_125 rfl (lv_at hl 5 rfl) ?_
        refine lv_iload hx hb dX8_worthOf_126 (lv_at hl 1 rfl) ?_
        refine lv_iconst (v := (-1)) hx hb dX8_worthOf_128 (by decide) ?_
        refine lv_icmp_ne (tgt := 136) hx hb dX8_worthOf_129 (by decide) (fun c7 => absurd (by decide) c7) (fun _ => ?_)
        refine lv_iconst (v := (-1)) hx hb dX8_worthOf_132 (by decide) ?_
        refine lv_goto (tgt := 143) hx hb dX8_worthOf_133 (by decide) ?_
        refine pf_X8_187 hx hb hts hown hK hO hS hH hm1 rfl (Nat.le_of_ble_eq_true rfl) rfl dX8_worthOf_143 (fun H locs hH hS => ?_)
        obtain ⟨f8, ef8⟩ : ∃ zz_, zz_ = hm_up f1 m0 (eM r mth mpl mga mtr (nI S.2.1) (nI rr) S.2.2.1 mli dz gd S.2.2.2.1 S.2.2.2.2 ((-1)) msh msm mso msp mrf) := ⟨_, rfl⟩
        have hH : hm_H Γ f8 H := by rw [ef8]; exact hH
        have h9 : f8 m0 = some (eM r mth mpl mga mtr (nI S.2.1) (nI rr) S.2.2.1 mli dz gd S.2.2.2.1 S.2.2.2.2 ((-1)) msh msm mso msp mrf) := by rw [ef8]; exact hm_us
        have h10 : f8 ((r 14)) = some (eJ Γ 64 (fun j => (S.1 j).1)) := by rw [ef8]; exact (hm_un (hm_ne hk0 hm1 (fun q => by cases q))).trans hk0
        have h11 : f8 ((r 15)) = some (eI Γ 64 (fun j => (S.1 j).2.1)) := by rw [ef8]; exact (hm_un (hm_ne hk1 hm1 (fun q => by cases q))).trans hk1
        have h12 : f8 ((r 16)) = some (eI Γ 64 (fun j => (S.1 j).2.2.1)) := by rw [ef8]; exact (hm_un (hm_ne hk2 hm1 (fun q => by cases q))).trans hk2
        have h13 : f8 ((r 17)) = some (eI Γ 64 (fun j => (S.1 j).2.2.2.1)) := by rw [ef8]; exact (hm_un (hm_ne hk3 hm1 (fun q => by cases q))).trans hk3
        have h14 : f8 ((r 18)) = some (eI Γ 64 (fun j => (S.1 j).2.2.2.2.1)) := by rw [ef8]; exact (hm_un (hm_ne hk4 hm1 (fun q => by cases q))).trans hk4
        have h15 : f8 ((r 19)) = some (eI Γ 64 (fun j => (S.1 j).2.2.2.2.2.1)) := by rw [ef8]; exact (hm_un (hm_ne hk5 hm1 (fun q => by cases q))).trans hk5
        have h16 : f8 ((r 20)) = some (eI Γ 64 (fun j => (S.1 j).2.2.2.2.2.2)) := by rw [ef8]; exact (hm_un (hm_ne hk6 hm1 (fun q => by cases q))).trans hk6
        have h17 : f8 ((r 21)) = some (eJ Γ 6 pb) := by rw [ef8]; exact (hm_un (hm_ne hp0 hm1 (fun q => by cases q))).trans hp0
        have h18 : f8 ((r 22)) = some (eI Γ 6 pz) := by rw [ef8]; exact (hm_un (hm_ne hp1 hm1 (fun q => by cases q))).trans hp1
        have h19 : f8 ((r 23)) = some (eI Γ 6 pd) := by rw [ef8]; exact (hm_un (hm_ne hp2 hm1 (fun q => by cases q))).trans hp2
        have h20 : f8 ((r 24)) = some (eI Γ 6 pn) := by rw [ef8]; exact (hm_un (hm_ne hp3 hm1 (fun q => by cases q))).trans hp3
        have h21 : f8 ((r 25)) = some (eI Γ 6 pe) := by rw [ef8]; exact (hm_un (hm_ne hp4 hm1 (fun q => by cases q))).trans hp4
        have h22 : f8 ((r 26)) = some (eI Γ 6 ph) := by rw [ef8]; exact (hm_un (hm_ne hp5 hm1 (fun q => by cases q))).trans hp5
        have h23 : f8 ((r 27)) = some (eI Γ 6 pg) := by rw [ef8]; exact (hm_un (hm_ne hp6 hm1 (fun q => by cases q))).trans hp6
        refine lv_aload_n hx hb dX8_worthOf_146 rfl (lv_at hl 5 rfl) ?_
        refine lv_dup hx hb dX8_worthOf_147 rfl ?_
        refine gf_X8_190 hx hb hts hown hK hH h9 rfl dX8_worthOf_148 ?_
        refine lv_iload hx hb dX8_worthOf_151 (lv_at hl 1 rfl) ?_
        refine lv_iconst (v := (-1)) hx hb dX8_worthOf_153 (by decide) ?_
        refine lv_icmp_ne (tgt := 161) hx hb dX8_worthOf_154 (by decide) (fun c24 => absurd (by decide) c24) (fun _ => ?_)
        refine lv_iconst (v := 0) hx hb dX8_worthOf_157 (by decide) ?_
        refine lv_goto (tgt := 162) hx hb dX8_worthOf_158 (by decide) ?_
        refine lv_iadd hx hb dX8_worthOf_162 ?_
        refine lv_topi (fun v25 ev25 => ?_)
        replace ev25 : v25 = S.2.2.2.1 := ev25.trans (Int32.add_zero _)
        subst ev25
        refine pf_X8_190 hx hb hts hown hK hO hS hH h9 rfl (Nat.le_of_ble_eq_true rfl) rfl dX8_worthOf_163 (fun H locs hH hS => ?_)
        obtain ⟨f26, ef26⟩ : ∃ zz_, zz_ = hm_up f8 m0 (eM r mth mpl mga mtr (nI S.2.1) (nI rr) S.2.2.1 mli dz gd S.2.2.2.1 S.2.2.2.2 ((-1)) msh msm mso msp mrf) := ⟨_, rfl⟩
        have hH : hm_H Γ f26 H := by rw [ef26]; exact hH
        have h27 : f26 m0 = some (eM r mth mpl mga mtr (nI S.2.1) (nI rr) S.2.2.1 mli dz gd S.2.2.2.1 S.2.2.2.2 ((-1)) msh msm mso msp mrf) := by rw [ef26]; exact hm_us
        have h28 : f26 ((r 14)) = some (eJ Γ 64 (fun j => (S.1 j).1)) := by rw [ef26]; exact (hm_un (hm_ne h10 h9 (fun q => by cases q))).trans h10
        have h29 : f26 ((r 15)) = some (eI Γ 64 (fun j => (S.1 j).2.1)) := by rw [ef26]; exact (hm_un (hm_ne h11 h9 (fun q => by cases q))).trans h11
        have h30 : f26 ((r 16)) = some (eI Γ 64 (fun j => (S.1 j).2.2.1)) := by rw [ef26]; exact (hm_un (hm_ne h12 h9 (fun q => by cases q))).trans h12
        have h31 : f26 ((r 17)) = some (eI Γ 64 (fun j => (S.1 j).2.2.2.1)) := by rw [ef26]; exact (hm_un (hm_ne h13 h9 (fun q => by cases q))).trans h13
        have h32 : f26 ((r 18)) = some (eI Γ 64 (fun j => (S.1 j).2.2.2.2.1)) := by rw [ef26]; exact (hm_un (hm_ne h14 h9 (fun q => by cases q))).trans h14
        have h33 : f26 ((r 19)) = some (eI Γ 64 (fun j => (S.1 j).2.2.2.2.2.1)) := by rw [ef26]; exact (hm_un (hm_ne h15 h9 (fun q => by cases q))).trans h15
        have h34 : f26 ((r 20)) = some (eI Γ 64 (fun j => (S.1 j).2.2.2.2.2.2)) := by rw [ef26]; exact (hm_un (hm_ne h16 h9 (fun q => by cases q))).trans h16
        have h35 : f26 ((r 21)) = some (eJ Γ 6 pb) := by rw [ef26]; exact (hm_un (hm_ne h17 h9 (fun q => by cases q))).trans h17
        have h36 : f26 ((r 22)) = some (eI Γ 6 pz) := by rw [ef26]; exact (hm_un (hm_ne h18 h9 (fun q => by cases q))).trans h18
        have h37 : f26 ((r 23)) = some (eI Γ 6 pd) := by rw [ef26]; exact (hm_un (hm_ne h19 h9 (fun q => by cases q))).trans h19
        have h38 : f26 ((r 24)) = some (eI Γ 6 pn) := by rw [ef26]; exact (hm_un (hm_ne h20 h9 (fun q => by cases q))).trans h20
        have h39 : f26 ((r 25)) = some (eI Γ 6 pe) := by rw [ef26]; exact (hm_un (hm_ne h21 h9 (fun q => by cases q))).trans h21
        have h40 : f26 ((r 26)) = some (eI Γ 6 ph) := by rw [ef26]; exact (hm_un (hm_ne h22 h9 (fun q => by cases q))).trans h22
        have h41 : f26 ((r 27)) = some (eI Γ 6 pg) := by rw [ef26]; exact (hm_un (hm_ne h23 h9 (fun q => by cases q))).trans h23
        refine lv_iload hx hb dX8_worthOf_166 (lv_at hl 1 rfl) ?_
        refine lv_iconst (v := (-1)) hx hb dX8_worthOf_168 (by decide) ?_
        refine lv_icmp_eq (tgt := 190) hx hb dX8_worthOf_169 (by decide) (fun _ => ?_) (fun c42 => absurd (by decide) c42)
        refine lv_iinc (v := (nI L + (-1))) (lv' := [(6, .int ((nI L + (-1)))), (7, .int 0), (9, .int ((-1))), (8, .int 0), (5, .int (bI cb)), (0, .ref m0)]) hx hb dX8_worthOf_190 hl (k := 3) rfl (rfl) (by decide) rfl (fun ls hl => ?_)
        refine lv_goto (tgt := 31) hx hb dX8_worthOf_193 (by decide) ?_
        have hfrX : hm_fr (wS m0 r) f f26 := by
          rw [ef26, ef8]
          exact ((hfr).up (Or.inl rfl)).up (Or.inl rfl)
        exact K _ _ _ pb pz pd pn pe ph pg ⟨h27, ⟨h28, h29, h30, h31, h32, h33, h34⟩, ⟨h35, h36, h37, h38, h39, h40, h41⟩⟩ (fun j hj => ⟨rfl, rfl, rfl, rfl, rfl, rfl, rfl⟩) hfrX H locs hH hS ls (lv_sub hl [0, 1, 3, 4, 5] rfl)
      · refine lv_aload_n hx hb dX8_worthOf_49 rfl (lv_at hl 4 rfl) ?_
        refine gf_X8_81 hx hb hts hown hK hH hm1 rfl dX8_worthOf_50 ?_
        refine lv_iload hx hb dX8_worthOf_53 (lv_at hl 1 rfl) ?_
        refine hm_iald hx hb hK hH hp2 (vp_in_nI (show L < 6 by omega) (by decide)) dX8_worthOf_55 ?_
        refine lv_topi (fun v43 ev43 => ?_)
        replace ev43 : v43 = nI 0 := ev43.trans (by show pd (nI L).toNatClampNeg = _; rw [nI_clamp (n := L) (by omega)]; exact hpd)
        subst ev43
        refine lv_if_le (tgt := 87) hx hb dX8_worthOf_56 (by decide) (fun _ => ?_) (fun c44 => absurd (Int32.le_refl _) c44)
        refine lv_iconst (v := (-1)) hx hb dX8_worthOf_87 (by decide) ?_
        refine lv_istore (lv' := [(9, .int ((-1))), (8, .int 0), (6, .int (nI L)), (7, .int fo), (5, .int (bI cb)), (0, .ref m0)]) hx hb dX8_worthOf_88 hl (by decide) rfl (fun ls hl => ?_)
        refine lv_aload_n hx hb dX8_worthOf_90 rfl (lv_at hl 5 rfl) ?_
        refine gf_X8_81 hx hb hts hown hK hH hm1 rfl dX8_worthOf_91 ?_
        refine lv_iload hx hb dX8_worthOf_94 (lv_at hl 2 rfl) ?_
        refine hm_iald hx hb hK hH hp2 (vp_in_nI (show L < 6 by omega) (by decide)) dX8_worthOf_96 ?_
        refine lv_topi (fun v45 ev45 => ?_)
        replace ev45 : v45 = nI 0 := ev45.trans (by show pd (nI L).toNatClampNeg = _; rw [nI_clamp (n := L) (by omega)]; exact hpd)
        subst ev45
        refine lv_if_eq (tgt := 106) hx hb dX8_worthOf_97 (by decide) (fun _ => ?_) (fun c46 => absurd (rfl) c46)
        refine lv_iload hx hb dX8_worthOf_106 (lv_at hl 0 rfl) ?_
        refine lv_iconst (v := (-1)) hx hb dX8_worthOf_108 (by decide) ?_
        refine lv_icmp_ne (tgt := 116) hx hb dX8_worthOf_109 (by decide) (fun c47 => absurd (by decide) c47) (fun _ => ?_)
        refine lv_iconst (v := 0) hx hb dX8_worthOf_112 (by decide) ?_
        refine lv_goto (tgt := 123) hx hb dX8_worthOf_113 (by decide) ?_
        refine lv_istore (lv' := [(7, .int 0), (9, .int ((-1))), (8, .int 0), (6, .int (nI L)), (5, .int (bI cb)), (0, .ref m0)]) hx hb dX8_worthOf_123 hl (by decide) rfl (fun ls hl => ?_)
        refine lv_aload_n hx hb dX8_worthOf_125 rfl (lv_at hl 5 rfl) ?_
        refine lv_iload hx hb dX8_worthOf_126 (lv_at hl 1 rfl) ?_
        refine lv_iconst (v := (-1)) hx hb dX8_worthOf_128 (by decide) ?_
        refine lv_icmp_ne (tgt := 136) hx hb dX8_worthOf_129 (by decide) (fun c48 => absurd (by decide) c48) (fun _ => ?_)
        refine lv_iconst (v := (-1)) hx hb dX8_worthOf_132 (by decide) ?_
        refine lv_goto (tgt := 143) hx hb dX8_worthOf_133 (by decide) ?_
        refine pf_X8_187 hx hb hts hown hK hO hS hH hm1 rfl (Nat.le_of_ble_eq_true rfl) rfl dX8_worthOf_143 (fun H locs hH hS => ?_)
        obtain ⟨f49, ef49⟩ : ∃ zz_, zz_ = hm_up f1 m0 (eM r mth mpl mga mtr (nI S.2.1) (nI rr) S.2.2.1 mli dz gd S.2.2.2.1 S.2.2.2.2 ((-1)) msh msm mso msp mrf) := ⟨_, rfl⟩
        have hH : hm_H Γ f49 H := by rw [ef49]; exact hH
        have h50 : f49 m0 = some (eM r mth mpl mga mtr (nI S.2.1) (nI rr) S.2.2.1 mli dz gd S.2.2.2.1 S.2.2.2.2 ((-1)) msh msm mso msp mrf) := by rw [ef49]; exact hm_us
        have h51 : f49 ((r 14)) = some (eJ Γ 64 (fun j => (S.1 j).1)) := by rw [ef49]; exact (hm_un (hm_ne hk0 hm1 (fun q => by cases q))).trans hk0
        have h52 : f49 ((r 15)) = some (eI Γ 64 (fun j => (S.1 j).2.1)) := by rw [ef49]; exact (hm_un (hm_ne hk1 hm1 (fun q => by cases q))).trans hk1
        have h53 : f49 ((r 16)) = some (eI Γ 64 (fun j => (S.1 j).2.2.1)) := by rw [ef49]; exact (hm_un (hm_ne hk2 hm1 (fun q => by cases q))).trans hk2
        have h54 : f49 ((r 17)) = some (eI Γ 64 (fun j => (S.1 j).2.2.2.1)) := by rw [ef49]; exact (hm_un (hm_ne hk3 hm1 (fun q => by cases q))).trans hk3
        have h55 : f49 ((r 18)) = some (eI Γ 64 (fun j => (S.1 j).2.2.2.2.1)) := by rw [ef49]; exact (hm_un (hm_ne hk4 hm1 (fun q => by cases q))).trans hk4
        have h56 : f49 ((r 19)) = some (eI Γ 64 (fun j => (S.1 j).2.2.2.2.2.1)) := by rw [ef49]; exact (hm_un (hm_ne hk5 hm1 (fun q => by cases q))).trans hk5
        have h57 : f49 ((r 20)) = some (eI Γ 64 (fun j => (S.1 j).2.2.2.2.2.2)) := by rw [ef49]; exact (hm_un (hm_ne hk6 hm1 (fun q => by cases q))).trans hk6
        have h58 : f49 ((r 21)) = some (eJ Γ 6 pb) := by rw [ef49]; exact (hm_un (hm_ne hp0 hm1 (fun q => by cases q))).trans hp0
        have h59 : f49 ((r 22)) = some (eI Γ 6 pz) := by rw [ef49]; exact (hm_un (hm_ne hp1 hm1 (fun q => by cases q))).trans hp1
        have h60 : f49 ((r 23)) = some (eI Γ 6 pd) := by rw [ef49]; exact (hm_un (hm_ne hp2 hm1 (fun q => by cases q))).trans hp2
        have h61 : f49 ((r 24)) = some (eI Γ 6 pn) := by rw [ef49]; exact (hm_un (hm_ne hp3 hm1 (fun q => by cases q))).trans hp3
        have h62 : f49 ((r 25)) = some (eI Γ 6 pe) := by rw [ef49]; exact (hm_un (hm_ne hp4 hm1 (fun q => by cases q))).trans hp4
        have h63 : f49 ((r 26)) = some (eI Γ 6 ph) := by rw [ef49]; exact (hm_un (hm_ne hp5 hm1 (fun q => by cases q))).trans hp5
        have h64 : f49 ((r 27)) = some (eI Γ 6 pg) := by rw [ef49]; exact (hm_un (hm_ne hp6 hm1 (fun q => by cases q))).trans hp6
        refine lv_aload_n hx hb dX8_worthOf_146 rfl (lv_at hl 5 rfl) ?_
        refine lv_dup hx hb dX8_worthOf_147 rfl ?_
        refine gf_X8_190 hx hb hts hown hK hH h50 rfl dX8_worthOf_148 ?_
        refine lv_iload hx hb dX8_worthOf_151 (lv_at hl 1 rfl) ?_
        refine lv_iconst (v := (-1)) hx hb dX8_worthOf_153 (by decide) ?_
        refine lv_icmp_ne (tgt := 161) hx hb dX8_worthOf_154 (by decide) (fun c65 => absurd (by decide) c65) (fun _ => ?_)
        refine lv_iconst (v := 0) hx hb dX8_worthOf_157 (by decide) ?_
        refine lv_goto (tgt := 162) hx hb dX8_worthOf_158 (by decide) ?_
        refine lv_iadd hx hb dX8_worthOf_162 ?_
        refine lv_topi (fun v66 ev66 => ?_)
        replace ev66 : v66 = S.2.2.2.1 := ev66.trans (Int32.add_zero _)
        subst ev66
        refine pf_X8_190 hx hb hts hown hK hO hS hH h50 rfl (Nat.le_of_ble_eq_true rfl) rfl dX8_worthOf_163 (fun H locs hH hS => ?_)
        obtain ⟨f67, ef67⟩ : ∃ zz_, zz_ = hm_up f49 m0 (eM r mth mpl mga mtr (nI S.2.1) (nI rr) S.2.2.1 mli dz gd S.2.2.2.1 S.2.2.2.2 ((-1)) msh msm mso msp mrf) := ⟨_, rfl⟩
        have hH : hm_H Γ f67 H := by rw [ef67]; exact hH
        have h68 : f67 m0 = some (eM r mth mpl mga mtr (nI S.2.1) (nI rr) S.2.2.1 mli dz gd S.2.2.2.1 S.2.2.2.2 ((-1)) msh msm mso msp mrf) := by rw [ef67]; exact hm_us
        have h69 : f67 ((r 14)) = some (eJ Γ 64 (fun j => (S.1 j).1)) := by rw [ef67]; exact (hm_un (hm_ne h51 h50 (fun q => by cases q))).trans h51
        have h70 : f67 ((r 15)) = some (eI Γ 64 (fun j => (S.1 j).2.1)) := by rw [ef67]; exact (hm_un (hm_ne h52 h50 (fun q => by cases q))).trans h52
        have h71 : f67 ((r 16)) = some (eI Γ 64 (fun j => (S.1 j).2.2.1)) := by rw [ef67]; exact (hm_un (hm_ne h53 h50 (fun q => by cases q))).trans h53
        have h72 : f67 ((r 17)) = some (eI Γ 64 (fun j => (S.1 j).2.2.2.1)) := by rw [ef67]; exact (hm_un (hm_ne h54 h50 (fun q => by cases q))).trans h54
        have h73 : f67 ((r 18)) = some (eI Γ 64 (fun j => (S.1 j).2.2.2.2.1)) := by rw [ef67]; exact (hm_un (hm_ne h55 h50 (fun q => by cases q))).trans h55
        have h74 : f67 ((r 19)) = some (eI Γ 64 (fun j => (S.1 j).2.2.2.2.2.1)) := by rw [ef67]; exact (hm_un (hm_ne h56 h50 (fun q => by cases q))).trans h56
        have h75 : f67 ((r 20)) = some (eI Γ 64 (fun j => (S.1 j).2.2.2.2.2.2)) := by rw [ef67]; exact (hm_un (hm_ne h57 h50 (fun q => by cases q))).trans h57
        have h76 : f67 ((r 21)) = some (eJ Γ 6 pb) := by rw [ef67]; exact (hm_un (hm_ne h58 h50 (fun q => by cases q))).trans h58
        have h77 : f67 ((r 22)) = some (eI Γ 6 pz) := by rw [ef67]; exact (hm_un (hm_ne h59 h50 (fun q => by cases q))).trans h59
        have h78 : f67 ((r 23)) = some (eI Γ 6 pd) := by rw [ef67]; exact (hm_un (hm_ne h60 h50 (fun q => by cases q))).trans h60
        have h79 : f67 ((r 24)) = some (eI Γ 6 pn) := by rw [ef67]; exact (hm_un (hm_ne h61 h50 (fun q => by cases q))).trans h61
        have h80 : f67 ((r 25)) = some (eI Γ 6 pe) := by rw [ef67]; exact (hm_un (hm_ne h62 h50 (fun q => by cases q))).trans h62
        have h81 : f67 ((r 26)) = some (eI Γ 6 ph) := by rw [ef67]; exact (hm_un (hm_ne h63 h50 (fun q => by cases q))).trans h63
        have h82 : f67 ((r 27)) = some (eI Γ 6 pg) := by rw [ef67]; exact (hm_un (hm_ne h64 h50 (fun q => by cases q))).trans h64
        refine lv_iload hx hb dX8_worthOf_166 (lv_at hl 1 rfl) ?_
        refine lv_iconst (v := (-1)) hx hb dX8_worthOf_168 (by decide) ?_
        refine lv_icmp_eq (tgt := 190) hx hb dX8_worthOf_169 (by decide) (fun _ => ?_) (fun c83 => absurd (by decide) c83)
        refine lv_iinc (v := (nI L + (-1))) (lv' := [(6, .int ((nI L + (-1)))), (7, .int 0), (9, .int ((-1))), (8, .int 0), (5, .int (bI cb)), (0, .ref m0)]) hx hb dX8_worthOf_190 hl (k := 3) rfl (rfl) (by decide) rfl (fun ls hl => ?_)
        refine lv_goto (tgt := 31) hx hb dX8_worthOf_193 (by decide) ?_
        have hfrX : hm_fr (wS m0 r) f f67 := by
          rw [ef67, ef49]
          exact ((hfr).up (Or.inl rfl)).up (Or.inl rfl)
        exact K _ _ _ pb pz pd pn pe ph pg ⟨h68, ⟨h69, h70, h71, h72, h73, h74, h75⟩, ⟨h76, h77, h78, h79, h80, h81, h82⟩⟩ (fun j hj => ⟨rfl, rfl, rfl, rfl, rfl, rfl, rfl⟩) hfrX H locs hH hS ls (lv_sub hl [0, 1, 3, 4, 5] rfl)
    | succ d ih =>
      intro hd4 L t z S f1 dz gd fh fo pb pz pd pn pe ph pg hLd hw hz hmo hHd hpb hpz hpd hfr K H locs hH hS ls hl
      have hw4 : wt t ≤ 4000 := by omega
      have ht15 : tl 15 t := tl_mono (tl12 hw4) (by decide)
      have dir : (cb = true → ∀ j, j < S.2.1 → isFor (S.1 j) (b4 t) (nI z) (nI (d + 1)) = false) → ∀ (k_ to : Nat) (S1 : MT) (f3 : Hm) (dz3 gd3 fh3 : Int32) (pb3 : Nat → Int64) (pz3 pd3 pn3 pe3 ph3 pg3 : Nat → Int32), to + k_ = 4 → S1 = (foldM (goN t) (stM cb rr d t z) to (missM S)) → HD Γ f3 m0 r mth mpl mga mtr mli msh msm mso msp mrf rr S1 dz3 gd3 fh3 pb3 pz3 pd3 pn3 pe3 ph3 pg3 → pb3 L = b4 t → pz3 L = nI z → pd3 L = nI (d + 1) → pn3 L = nI to → pe3 L = nI (bestF (goN t) (wv d t z) to).1 → ph3 L = (bestF (goN t) (wv d t z) to).2 → (∀ j, j < L → pb3 j = pb j ∧ pz3 j = pz j ∧ pd3 j = pd j ∧ pn3 j = pn j ∧ pe3 j = pe j ∧ ph3 j = ph j ∧ pg3 j = pg j) → hm_fr (wS m0 r) f f3 → ∀ (H : Heap) (locs : List Loc), hm_H Γ f3 H → va_S (gA Γ) s.heap H locs → ∀ ls : Array Slot, lv_has ls 11 [(6, .int (nI L)), (7, .int (-1)), (8, .int 0), (5, .int (bI cb)), (0, .ref m0)] → W p l e (rmk 4 0 0) s m args below meth c H locs 0 0 (MQ below (hm_Q Γ (fun v f' => v = some (.int (nI (wp d0 t0 z0).1)) ∧ (∃ (dz2 gd2 : Int32) (pb2 : Nat → Int64) (pz2 pd2 pn2 pe2 ph2 pg2 : Nat → Int32), HD Γ f' m0 r mth mpl mga mtr mli msh msm mso msp mrf rr ((trM cb rr d0 t0 z0 S0)) dz2 gd2 ((wp d0 t0 z0).2) pb2 pz2 pd2 pn2 pe2 ph2 pg2) ∧ hm_fr (wS m0 r) f f')) args s 0 0 (gA Γ)) (F0 m 302 ls []) := by
        intro hno k_
        induction k_ with
        | zero =>
          intro to S1 f3 dz3 gd3 fh3 pb3 pz3 pd3 pn3 pe3 ph3 pg3 hto hS1 hHd3 hb3 hz3 hd3 hn3 he3 hh3 hsm hfr3 H locs hH hS ls hl
          have hto4 : to = 4 := by omega
          subst hto4
          have hmo1 : mokA rr S1 := by rw [hS1]; exact foldM_ok (show mokA rr (missM S) from hmo) (fun k hk S9 h9 => trM_ok (by omega) (nxt_lt _) (by have := wt_next (t := t) (z := z) hk; omega) h9)
          have htr := trM_miss (rr := rr) (cb := cb) (d := d) (t := t) (z := z) (S := S) hno
          rw [← hS1] at htr
          obtain ⟨hm1, hKA1, hPA1⟩ := id hHd3
          obtain ⟨hk0, hk1, hk2, hk3, hk4, hk5, hk6⟩ := id hKA1
          obtain ⟨hp0, hp1, hp2, hp3, hp4, hp5, hp6⟩ := id hPA1
          refine lv_aload_n hx hb dX8_worthOf_302 rfl (lv_at hl 4 rfl) ?_
          refine gf_X8_84 hx hb hts hown hK hH hm1 rfl dX8_worthOf_303 ?_
          refine lv_iload hx hb dX8_worthOf_306 (lv_at hl 0 rfl) ?_
          refine hm_iald hx hb hK hH hp3 (vp_in_nI (show L < 6 by omega) (by decide)) dX8_worthOf_308 ?_
          refine lv_topi (fun v1 ev1 => ?_)
          replace ev1 : v1 = nI 4 := ev1.trans (by show pn3 (nI L).toNatClampNeg = _; rw [nI_clamp (n := L) (by omega)]; exact hn3)
          subst ev1
          refine lv_iconst (v := 4) hx hb dX8_worthOf_309 (by decide) ?_
          refine lv_icmp_ge (tgt := 348) hx hb dX8_worthOf_310 (by decide) (fun _ => ?_) (fun c2 => absurd (by decide) c2)
          refine lv_aload_n hx hb dX8_worthOf_348 rfl (lv_at hl 4 rfl) ?_
          refine gf_X8_84 hx hb hts hown hK hH hm1 rfl dX8_worthOf_349 ?_
          refine lv_iload hx hb dX8_worthOf_352 (lv_at hl 0 rfl) ?_
          refine hm_iald hx hb hK hH hp3 (vp_in_nI (show L < 6 by omega) (by decide)) dX8_worthOf_354 ?_
          refine lv_topi (fun v3 ev3 => ?_)
          replace ev3 : v3 = nI 4 := ev3.trans (by show pn3 (nI L).toNatClampNeg = _; rw [nI_clamp (n := L) (by omega)]; exact hn3)
          subst ev3
          refine lv_iconst (v := 4) hx hb dX8_worthOf_355 (by decide) ?_
          refine lv_icmp_ge (tgt := 463) hx hb dX8_worthOf_356 (by decide) (fun _ => ?_) (fun c4 => absurd (by decide) c4)
          refine lv_iload hx hb dX8_worthOf_463 (lv_at hl 3 rfl) ?_
          refine lv_if_eq (tgt := 474) hx hb dX8_worthOf_465 (by decide) (fun c5 => ?_) (fun c5 => ?_)
          · refine lv_aload_n hx hb dX8_worthOf_474 rfl (lv_at hl 4 rfl) ?_
            refine gf_X8_87 hx hb hts hown hK hH hm1 rfl dX8_worthOf_475 ?_
            refine lv_iload hx hb dX8_worthOf_478 (lv_at hl 0 rfl) ?_
            refine hm_iald hx hb hK hH hp4 (vp_in_nI (show L < 6 by omega) (by decide)) dX8_worthOf_480 ?_
            refine lv_topi (fun v6 ev6 => ?_)
            replace ev6 : v6 = nI (bestF (goN t) (wv d t z) 4).1 := ev6.trans (by show pe3 (nI L).toNatClampNeg = _; rw [nI_clamp (n := L) (by omega)]; exact he3)
            subst ev6
            refine lv_istore (lv' := [(7, .int (nI (bestF (goN t) (wv d t z) 4).1)), (6, .int (nI L)), (8, .int 0), (5, .int (bI cb)), (0, .ref m0)]) hx hb dX8_worthOf_481 hl (by decide) rfl (fun ls hl => ?_)
            refine lv_aload_n hx hb dX8_worthOf_483 rfl (lv_at hl 4 rfl) ?_
            refine lv_aload_n hx hb dX8_worthOf_484 rfl (lv_at hl 4 rfl) ?_
            refine gf_X8_90 hx hb hts hown hK hH hm1 rfl dX8_worthOf_485 ?_
            refine lv_iload hx hb dX8_worthOf_488 (lv_at hl 1 rfl) ?_
            refine hm_iald hx hb hK hH hp5 (vp_in_nI (show L < 6 by omega) (by decide)) dX8_worthOf_490 ?_
            refine lv_topi (fun v7 ev7 => ?_)
            replace ev7 : v7 = (bestF (goN t) (wv d t z) 4).2 := ev7.trans (by show ph3 (nI L).toNatClampNeg = _; rw [nI_clamp (n := L) (by omega)]; exact hh3)
            subst ev7
            refine pf_X8_187 hx hb hts hown hK hO hS hH hm1 rfl (Nat.le_of_ble_eq_true rfl) rfl dX8_worthOf_491 (fun H locs hH hS => ?_)
            obtain ⟨f8, ef8⟩ : ∃ zz_, zz_ = hm_up f3 m0 (eM r mth mpl mga mtr (nI S1.2.1) (nI rr) S1.2.2.1 mli dz3 gd3 S1.2.2.2.1 S1.2.2.2.2 ((bestF (goN t) (wv d t z) 4).2) msh msm mso msp mrf) := ⟨_, rfl⟩
            have hH : hm_H Γ f8 H := by rw [ef8]; exact hH
            have h9 : f8 m0 = some (eM r mth mpl mga mtr (nI S1.2.1) (nI rr) S1.2.2.1 mli dz3 gd3 S1.2.2.2.1 S1.2.2.2.2 ((bestF (goN t) (wv d t z) 4).2) msh msm mso msp mrf) := by rw [ef8]; exact hm_us
            have h10 : f8 ((r 14)) = some (eJ Γ 64 (fun j => (S1.1 j).1)) := by rw [ef8]; exact (hm_un (hm_ne hk0 hm1 (fun q => by cases q))).trans hk0
            have h11 : f8 ((r 15)) = some (eI Γ 64 (fun j => (S1.1 j).2.1)) := by rw [ef8]; exact (hm_un (hm_ne hk1 hm1 (fun q => by cases q))).trans hk1
            have h12 : f8 ((r 16)) = some (eI Γ 64 (fun j => (S1.1 j).2.2.1)) := by rw [ef8]; exact (hm_un (hm_ne hk2 hm1 (fun q => by cases q))).trans hk2
            have h13 : f8 ((r 17)) = some (eI Γ 64 (fun j => (S1.1 j).2.2.2.1)) := by rw [ef8]; exact (hm_un (hm_ne hk3 hm1 (fun q => by cases q))).trans hk3
            have h14 : f8 ((r 18)) = some (eI Γ 64 (fun j => (S1.1 j).2.2.2.2.1)) := by rw [ef8]; exact (hm_un (hm_ne hk4 hm1 (fun q => by cases q))).trans hk4
            have h15 : f8 ((r 19)) = some (eI Γ 64 (fun j => (S1.1 j).2.2.2.2.2.1)) := by rw [ef8]; exact (hm_un (hm_ne hk5 hm1 (fun q => by cases q))).trans hk5
            have h16 : f8 ((r 20)) = some (eI Γ 64 (fun j => (S1.1 j).2.2.2.2.2.2)) := by rw [ef8]; exact (hm_un (hm_ne hk6 hm1 (fun q => by cases q))).trans hk6
            have h17 : f8 ((r 21)) = some (eJ Γ 6 pb3) := by rw [ef8]; exact (hm_un (hm_ne hp0 hm1 (fun q => by cases q))).trans hp0
            have h18 : f8 ((r 22)) = some (eI Γ 6 pz3) := by rw [ef8]; exact (hm_un (hm_ne hp1 hm1 (fun q => by cases q))).trans hp1
            have h19 : f8 ((r 23)) = some (eI Γ 6 pd3) := by rw [ef8]; exact (hm_un (hm_ne hp2 hm1 (fun q => by cases q))).trans hp2
            have h20 : f8 ((r 24)) = some (eI Γ 6 pn3) := by rw [ef8]; exact (hm_un (hm_ne hp3 hm1 (fun q => by cases q))).trans hp3
            have h21 : f8 ((r 25)) = some (eI Γ 6 pe3) := by rw [ef8]; exact (hm_un (hm_ne hp4 hm1 (fun q => by cases q))).trans hp4
            have h22 : f8 ((r 26)) = some (eI Γ 6 ph3) := by rw [ef8]; exact (hm_un (hm_ne hp5 hm1 (fun q => by cases q))).trans hp5
            have h23 : f8 ((r 27)) = some (eI Γ 6 pg3) := by rw [ef8]; exact (hm_un (hm_ne hp6 hm1 (fun q => by cases q))).trans hp6
            refine lv_iinc (v := (nI L + (-1))) (lv' := [(6, .int ((nI L + (-1)))), (7, .int (nI (bestF (goN t) (wv d t z) 4).1)), (8, .int 0), (5, .int (bI cb)), (0, .ref m0)]) hx hb dX8_worthOf_494 hl (k := 1) rfl (rfl) (by decide) rfl (fun ls hl => ?_)
            refine lv_goto (tgt := 31) hx hb dX8_worthOf_497 (by decide) ?_
            have hfrX : hm_fr (wS m0 r) f f8 := by
              rw [ef8]
              exact (hfr3).up (Or.inl rfl)
            have hcb : cb = false := bI_0.mp c5
            have hkT : trM cb rr (d + 1) t z S = S1 := by rw [htr, hcb]; rfl
            rw [hkT, wp_s] at K
            exact K _ _ _ pb3 pz3 pd3 pn3 pe3 ph3 pg3 ⟨h9, ⟨h10, h11, h12, h13, h14, h15, h16⟩, ⟨h17, h18, h19, h20, h21, h22, h23⟩⟩ hsm hfrX H locs hH hS ls (lv_sub hl [0, 1, 2, 3, 4] rfl)
          · refine lv_aload_n hx hb dX8_worthOf_468 rfl (lv_at hl 4 rfl) ?_
            refine lv_iload hx hb dX8_worthOf_469 (lv_at hl 0 rfl) ?_
            have hcb : cb = true := bI_n.mp c5
            refine hm_callV (rest := []) (k := 2) q5_221 q5_223 q1_9 q5_224 q0_28 rfl nm_X8_keep rfl hx hb hml hown hts hK hO hS hH hl.1 hm1 (c_X8_keep Γ l m0 r mth mpl mga mtr S1.2.2.1 mli dz3 gd3 S1.2.2.2.1 S1.2.2.2.2 fh3 msh msm mso msp mrf S1.2.1 S1.1 rr L pb3 pz3 pd3 pn3 pe3 ph3 pg3 f3 hm1 hKA1 hPA1 hrI hmo1.1 hr1 hrr (by omega)) ⟨Nat.le_of_ble_eq_true rfl, Nat.le_of_ble_eq_true rfl⟩ ⟨Nat.le_of_ble_eq_true rfl, Nat.le_of_ble_eq_true rfl⟩ rfl (Nat.le_of_ble_eq_true rfl) dX8_worthOf_471 (fun v_ f4_ H locs hp_ hH hS => ?_)
            obtain ⟨rfl, hm4, hKA4, hfr4⟩ := hp_
            refine W.eq (g2 := F0 m 474 ls []) rfl ?_
            have hPA4 := PAkp hPA1 hm1 hrI hfr4
            obtain ⟨ha0, ha1, ha2, ha3, ha4, ha5, ha6⟩ := id hKA4
            obtain ⟨hb0, hb1, hb2, hb3_, hb4, hb5, hb6⟩ := id hPA4
            have hfr5 : hm_fr (wS m0 r) f f4_ := hfr3.tr (hfr4.mono (fun q hq => kS_w hq))
            have hkT : trM cb rr (d + 1) t z S = ((keepM rr (S1.1, S1.2.1, S1.2.2.1) (pb3 L) (pz3 L) (pd3 L) (pe3 L) (ph3 L)).1, (keepM rr (S1.1, S1.2.1, S1.2.2.1) (pb3 L) (pz3 L) (pd3 L) (pe3 L) (ph3 L)).2.1, (keepM rr (S1.1, S1.2.1, S1.2.2.1) (pb3 L) (pz3 L) (pd3 L) (pe3 L) (ph3 L)).2.2, S1.2.2.2.1, S1.2.2.2.2) := by rw [htr, hb3, hz3, hd3, he3, hh3, hcb]; rfl
            refine lv_aload_n hx hb dX8_worthOf_474 rfl (lv_at hl 4 rfl) ?_
            refine gf_X8_87 hx hb hts hown hK hH hm4 rfl dX8_worthOf_475 ?_
            refine lv_iload hx hb dX8_worthOf_478 (lv_at hl 0 rfl) ?_
            refine hm_iald hx hb hK hH hb4 (vp_in_nI (show L < 6 by omega) (by decide)) dX8_worthOf_480 ?_
            refine lv_topi (fun v24 ev24 => ?_)
            replace ev24 : v24 = nI (bestF (goN t) (wv d t z) 4).1 := ev24.trans (by show pe3 (nI L).toNatClampNeg = _; rw [nI_clamp (n := L) (by omega)]; exact he3)
            subst ev24
            refine lv_istore (lv' := [(7, .int (nI (bestF (goN t) (wv d t z) 4).1)), (6, .int (nI L)), (8, .int 0), (5, .int (bI cb)), (0, .ref m0)]) hx hb dX8_worthOf_481 hl (by decide) rfl (fun ls hl => ?_)
            refine lv_aload_n hx hb dX8_worthOf_483 rfl (lv_at hl 4 rfl) ?_
            refine lv_aload_n hx hb dX8_worthOf_484 rfl (lv_at hl 4 rfl) ?_
            refine gf_X8_90 hx hb hts hown hK hH hm4 rfl dX8_worthOf_485 ?_
            refine lv_iload hx hb dX8_worthOf_488 (lv_at hl 1 rfl) ?_
            refine hm_iald hx hb hK hH hb5 (vp_in_nI (show L < 6 by omega) (by decide)) dX8_worthOf_490 ?_
            refine lv_topi (fun v25 ev25 => ?_)
            replace ev25 : v25 = (bestF (goN t) (wv d t z) 4).2 := ev25.trans (by show ph3 (nI L).toNatClampNeg = _; rw [nI_clamp (n := L) (by omega)]; exact hh3)
            subst ev25
            refine pf_X8_187 hx hb hts hown hK hO hS hH hm4 rfl (Nat.le_of_ble_eq_true rfl) rfl dX8_worthOf_491 (fun H locs hH hS => ?_)
            obtain ⟨f26, ef26⟩ : ∃ zz_, zz_ = hm_up f4_ m0 (eM r mth mpl mga mtr (nI (keepM rr (S1.1, S1.2.1, S1.2.2.1) (pb3 L) (pz3 L) (pd3 L) (pe3 L) (ph3 L)).2.1) (nI rr) ((keepM rr (S1.1, S1.2.1, S1.2.2.1) (pb3 L) (pz3 L) (pd3 L) (pe3 L) (ph3 L)).2.2) mli dz3 gd3 S1.2.2.2.1 S1.2.2.2.2 ((bestF (goN t) (wv d t z) 4).2) msh msm mso msp mrf) := ⟨_, rfl⟩
            have hH : hm_H Γ f26 H := by rw [ef26]; exact hH
            have h27 : f26 m0 = some (eM r mth mpl mga mtr (nI (keepM rr (S1.1, S1.2.1, S1.2.2.1) (pb3 L) (pz3 L) (pd3 L) (pe3 L) (ph3 L)).2.1) (nI rr) ((keepM rr (S1.1, S1.2.1, S1.2.2.1) (pb3 L) (pz3 L) (pd3 L) (pe3 L) (ph3 L)).2.2) mli dz3 gd3 S1.2.2.2.1 S1.2.2.2.2 ((bestF (goN t) (wv d t z) 4).2) msh msm mso msp mrf) := by rw [ef26]; exact hm_us
            have h28 : f26 ((r 14)) = some (eJ Γ 64 (fun j => ((keepM rr (S1.1, S1.2.1, S1.2.2.1) (pb3 L) (pz3 L) (pd3 L) (pe3 L) (ph3 L)).1 j).1)) := by rw [ef26]; exact (hm_un (hm_ne ha0 hm4 (fun q => by cases q))).trans ha0
            have h29 : f26 ((r 15)) = some (eI Γ 64 (fun j => ((keepM rr (S1.1, S1.2.1, S1.2.2.1) (pb3 L) (pz3 L) (pd3 L) (pe3 L) (ph3 L)).1 j).2.1)) := by rw [ef26]; exact (hm_un (hm_ne ha1 hm4 (fun q => by cases q))).trans ha1
            have h30 : f26 ((r 16)) = some (eI Γ 64 (fun j => ((keepM rr (S1.1, S1.2.1, S1.2.2.1) (pb3 L) (pz3 L) (pd3 L) (pe3 L) (ph3 L)).1 j).2.2.1)) := by rw [ef26]; exact (hm_un (hm_ne ha2 hm4 (fun q => by cases q))).trans ha2
            have h31 : f26 ((r 17)) = some (eI Γ 64 (fun j => ((keepM rr (S1.1, S1.2.1, S1.2.2.1) (pb3 L) (pz3 L) (pd3 L) (pe3 L) (ph3 L)).1 j).2.2.2.1)) := by rw [ef26]; exact (hm_un (hm_ne ha3 hm4 (fun q => by cases q))).trans ha3
            have h32 : f26 ((r 18)) = some (eI Γ 64 (fun j => ((keepM rr (S1.1, S1.2.1, S1.2.2.1) (pb3 L) (pz3 L) (pd3 L) (pe3 L) (ph3 L)).1 j).2.2.2.2.1)) := by rw [ef26]; exact (hm_un (hm_ne ha4 hm4 (fun q => by cases q))).trans ha4
            have h33 : f26 ((r 19)) = some (eI Γ 64 (fun j => ((keepM rr (S1.1, S1.2.1, S1.2.2.1) (pb3 L) (pz3 L) (pd3 L) (pe3 L) (ph3 L)).1 j).2.2.2.2.2.1)) := by rw [ef26]; exact (hm_un (hm_ne ha5 hm4 (fun q => by cases q))).trans ha5
            have h34 : f26 ((r 20)) = some (eI Γ 64 (fun j => ((keepM rr (S1.1, S1.2.1, S1.2.2.1) (pb3 L) (pz3 L) (pd3 L) (pe3 L) (ph3 L)).1 j).2.2.2.2.2.2)) := by rw [ef26]; exact (hm_un (hm_ne ha6 hm4 (fun q => by cases q))).trans ha6
            have h35 : f26 ((r 21)) = some (eJ Γ 6 pb3) := by rw [ef26]; exact (hm_un (hm_ne hb0 hm4 (fun q => by cases q))).trans hb0
            have h36 : f26 ((r 22)) = some (eI Γ 6 pz3) := by rw [ef26]; exact (hm_un (hm_ne hb1 hm4 (fun q => by cases q))).trans hb1
            have h37 : f26 ((r 23)) = some (eI Γ 6 pd3) := by rw [ef26]; exact (hm_un (hm_ne hb2 hm4 (fun q => by cases q))).trans hb2
            have h38 : f26 ((r 24)) = some (eI Γ 6 pn3) := by rw [ef26]; exact (hm_un (hm_ne hb3_ hm4 (fun q => by cases q))).trans hb3_
            have h39 : f26 ((r 25)) = some (eI Γ 6 pe3) := by rw [ef26]; exact (hm_un (hm_ne hb4 hm4 (fun q => by cases q))).trans hb4
            have h40 : f26 ((r 26)) = some (eI Γ 6 ph3) := by rw [ef26]; exact (hm_un (hm_ne hb5 hm4 (fun q => by cases q))).trans hb5
            have h41 : f26 ((r 27)) = some (eI Γ 6 pg3) := by rw [ef26]; exact (hm_un (hm_ne hb6 hm4 (fun q => by cases q))).trans hb6
            refine lv_iinc (v := (nI L + (-1))) (lv' := [(6, .int ((nI L + (-1)))), (7, .int (nI (bestF (goN t) (wv d t z) 4).1)), (8, .int 0), (5, .int (bI cb)), (0, .ref m0)]) hx hb dX8_worthOf_494 hl (k := 1) rfl (rfl) (by decide) rfl (fun ls hl => ?_)
            refine lv_goto (tgt := 31) hx hb dX8_worthOf_497 (by decide) ?_
            have hfrX : hm_fr (wS m0 r) f f26 := by
              rw [ef26]
              exact (hfr5).up (Or.inl rfl)
            rw [hkT, wp_s] at K
            exact K _ _ _ pb3 pz3 pd3 pn3 pe3 ph3 pg3 ⟨h27, ⟨h28, h29, h30, h31, h32, h33, h34⟩, ⟨h35, h36, h37, h38, h39, h40, h41⟩⟩ hsm hfrX H locs hH hS ls (lv_sub hl [0, 1, 2, 3, 4] rfl)
        | succ k_ ihk =>
          intro to S1 f3 dz3 gd3 fh3 pb3 pz3 pd3 pn3 pe3 ph3 pg3 hto_ hS1 hHd3 hb3 hz3 hd3 hn3 he3 hh3 hsm hfr3 H locs hH hS ls hl
          have hto : to < 4 := by omega
          have hwn := wt_next (t := t) (z := z) hto
          have hbl := wv_le (d := d) (t := t) (z := z) (k := to) (by omega) hto
          have hd5 : (d + 1) * 12288 ≤ 61440 := by omega
          have hbb : (bestF (goN t) (wv d t z) to).1 ≤ (d + 1) * 12288 := bestF_le (fun k hk _ => wv_le (by omega) (by omega))
          have hmo1 : mokA rr S1 := by rw [hS1]; exact foldM_ok (show mokA rr (missM S) from hmo) (fun k hk S9 h9 => trM_ok (by omega) (nxt_lt _) (by have := wt_next (t := t) (z := z) (show k < 4 by omega); omega) h9)
          obtain ⟨hm1, hKA1, hPA1⟩ := id hHd3
          obtain ⟨hk0, hk1, hk2, hk3, hk4, hk5, hk6⟩ := id hKA1
          obtain ⟨hp0, hp1, hp2, hp3, hp4, hp5, hp6⟩ := id hPA1
          refine lv_aload_n hx hb dX8_worthOf_302 rfl (lv_at hl 4 rfl) ?_
          refine gf_X8_84 hx hb hts hown hK hH hm1 rfl dX8_worthOf_303 ?_
          refine lv_iload hx hb dX8_worthOf_306 (lv_at hl 0 rfl) ?_
          refine hm_iald hx hb hK hH hp3 (vp_in_nI (show L < 6 by omega) (by decide)) dX8_worthOf_308 ?_
          refine lv_topi (fun v1 ev1 => ?_)
          replace ev1 : v1 = nI to := ev1.trans (by show pn3 (nI L).toNatClampNeg = _; rw [nI_clamp (n := L) (by omega)]; exact hn3)
          subst ev1
          refine lv_iconst (v := 4) hx hb dX8_worthOf_309 (by decide) ?_
          refine lv_icmp_ge (tgt := 348) hx hb dX8_worthOf_310 (by decide) (fun c2 => absurd c2 (nI_ge (a := to) (b := 4) hto (by decide))) (fun _ => ?_)
          refine lv_aload_n hx hb dX8_worthOf_313 rfl (lv_at hl 4 rfl) ?_
          refine lv_aload_n hx hb dX8_worthOf_314 rfl (lv_at hl 4 rfl) ?_
          refine gf_X8_75 hx hb hts hown hK hH hm1 rfl dX8_worthOf_315 ?_
          refine lv_iload hx hb dX8_worthOf_318 (lv_at hl 0 rfl) ?_
          refine hm_lald hx hb hK hH hp0 (vp_in_nI (show L < 6 by omega) (by decide)) dX8_worthOf_320 ?_
          refine lv_topl (fun v3 ev3 => ?_)
          replace ev3 : v3 = b4 t := ev3.trans (by show pb3 (nI L).toNatClampNeg = _; rw [nI_clamp (n := L) (by omega)]; exact hb3)
          subst ev3
          refine lv_aload_n hx hb dX8_worthOf_321 rfl (lv_at hl 4 rfl) ?_
          refine gf_X8_84 hx hb hts hown hK hH hm1 rfl dX8_worthOf_322 ?_
          refine lv_iload hx hb dX8_worthOf_325 (lv_at hl 0 rfl) ?_
          refine hm_iald hx hb hK hH hp3 (vp_in_nI (show L < 6 by omega) (by decide)) dX8_worthOf_327 ?_
          refine lv_topi (fun v4 ev4 => ?_)
          replace ev4 : v4 = nI to := ev4.trans (by show pn3 (nI L).toNatClampNeg = _; rw [nI_clamp (n := L) (by omega)]; exact hn3)
          subst ev4
          refine hm_callV (rest := []) (k := 3) q5_150 q5_152 q1_9 q5_153 q0_20 rfl nm_X8_can rfl hx hb hml hown hts hK hO hS hH hl.1 hm1 (c_X8_can Γ l m0 r mth mpl mga mtr (nI S1.2.1) (nI rr) S1.2.2.1 mli dz3 gd3 S1.2.2.2.1 S1.2.2.2.2 fh3 msh msm mso msp mrf t to f3 hm1 ht15 hto) ⟨Nat.le_of_ble_eq_true rfl, Nat.le_of_ble_eq_true rfl⟩ ⟨Nat.le_of_ble_eq_true rfl, Nat.le_of_ble_eq_true rfl⟩ rfl (Nat.le_of_ble_eq_true rfl) dX8_worthOf_328 (fun v_ fcan_ H locs hp_ hH hS => ?_)
          obtain ⟨rfl, efcan_⟩ := hp_
          refine W.eq (g2 := F0 m 331 ls [.int (bI (goN t to))]) rfl ?_
          have hmcan_ : fcan_ m0 = some (eM r mth mpl mga mtr (nI S1.2.1) (nI rr) S1.2.2.1 mli dz3 (nI (gainT t to)) S1.2.2.2.1 S1.2.2.2.2 fh3 msh msm mso msp mrf) := by rw [efcan_]; exact hm_us
          have h5 : fcan_ ((r 14)) = some (eJ Γ 64 (fun j => (S1.1 j).1)) := by rw [efcan_]; exact (hm_un (hm_ne hk0 hm1 (fun q => by cases q))).trans hk0
          have h6 : fcan_ ((r 15)) = some (eI Γ 64 (fun j => (S1.1 j).2.1)) := by rw [efcan_]; exact (hm_un (hm_ne hk1 hm1 (fun q => by cases q))).trans hk1
          have h7 : fcan_ ((r 16)) = some (eI Γ 64 (fun j => (S1.1 j).2.2.1)) := by rw [efcan_]; exact (hm_un (hm_ne hk2 hm1 (fun q => by cases q))).trans hk2
          have h8 : fcan_ ((r 17)) = some (eI Γ 64 (fun j => (S1.1 j).2.2.2.1)) := by rw [efcan_]; exact (hm_un (hm_ne hk3 hm1 (fun q => by cases q))).trans hk3
          have h9 : fcan_ ((r 18)) = some (eI Γ 64 (fun j => (S1.1 j).2.2.2.2.1)) := by rw [efcan_]; exact (hm_un (hm_ne hk4 hm1 (fun q => by cases q))).trans hk4
          have h10 : fcan_ ((r 19)) = some (eI Γ 64 (fun j => (S1.1 j).2.2.2.2.2.1)) := by rw [efcan_]; exact (hm_un (hm_ne hk5 hm1 (fun q => by cases q))).trans hk5
          have h11 : fcan_ ((r 20)) = some (eI Γ 64 (fun j => (S1.1 j).2.2.2.2.2.2)) := by rw [efcan_]; exact (hm_un (hm_ne hk6 hm1 (fun q => by cases q))).trans hk6
          have h12 : fcan_ ((r 21)) = some (eJ Γ 6 pb3) := by rw [efcan_]; exact (hm_un (hm_ne hp0 hm1 (fun q => by cases q))).trans hp0
          have h13 : fcan_ ((r 22)) = some (eI Γ 6 pz3) := by rw [efcan_]; exact (hm_un (hm_ne hp1 hm1 (fun q => by cases q))).trans hp1
          have h14 : fcan_ ((r 23)) = some (eI Γ 6 pd3) := by rw [efcan_]; exact (hm_un (hm_ne hp2 hm1 (fun q => by cases q))).trans hp2
          have h15 : fcan_ ((r 24)) = some (eI Γ 6 pn3) := by rw [efcan_]; exact (hm_un (hm_ne hp3 hm1 (fun q => by cases q))).trans hp3
          have h16 : fcan_ ((r 25)) = some (eI Γ 6 pe3) := by rw [efcan_]; exact (hm_un (hm_ne hp4 hm1 (fun q => by cases q))).trans hp4
          have h17 : fcan_ ((r 26)) = some (eI Γ 6 ph3) := by rw [efcan_]; exact (hm_un (hm_ne hp5 hm1 (fun q => by cases q))).trans hp5
          have h18 : fcan_ ((r 27)) = some (eI Γ 6 pg3) := by rw [efcan_]; exact (hm_un (hm_ne hp6 hm1 (fun q => by cases q))).trans hp6
          refine lv_if_ne (tgt := 348) hx hb dX8_worthOf_331 (by decide) (fun c19 => ?_) (fun c19 => ?_)
          · refine lv_aload_n hx hb dX8_worthOf_348 rfl (lv_at hl 4 rfl) ?_
            refine gf_X8_84 hx hb hts hown hK hH hmcan_ rfl dX8_worthOf_349 ?_
            refine lv_iload hx hb dX8_worthOf_352 (lv_at hl 0 rfl) ?_
            refine hm_iald hx hb hK hH h15 (vp_in_nI (show L < 6 by omega) (by decide)) dX8_worthOf_354 ?_
            refine lv_topi (fun v20 ev20 => ?_)
            replace ev20 : v20 = nI to := ev20.trans (by show pn3 (nI L).toNatClampNeg = _; rw [nI_clamp (n := L) (by omega)]; exact hn3)
            subst ev20
            refine lv_iconst (v := 4) hx hb dX8_worthOf_355 (by decide) ?_
            refine lv_icmp_ge (tgt := 463) hx hb dX8_worthOf_356 (by decide) (fun c21 => absurd c21 (nI_ge (a := to) (b := 4) hto (by decide))) (fun _ => ?_)
            refine lv_aload_n hx hb dX8_worthOf_359 rfl (lv_at hl 4 rfl) ?_
            refine lv_aload_n hx hb dX8_worthOf_360 rfl (lv_at hl 4 rfl) ?_
            refine gf_X8_75 hx hb hts hown hK hH hmcan_ rfl dX8_worthOf_361 ?_
            refine lv_iload hx hb dX8_worthOf_364 (lv_at hl 0 rfl) ?_
            refine hm_lald hx hb hK hH h12 (vp_in_nI (show L < 6 by omega) (by decide)) dX8_worthOf_366 ?_
            refine lv_topl (fun v22 ev22 => ?_)
            replace ev22 : v22 = b4 t := ev22.trans (by show pb3 (nI L).toNatClampNeg = _; rw [nI_clamp (n := L) (by omega)]; exact hb3)
            subst ev22
            refine lv_aload_n hx hb dX8_worthOf_367 rfl (lv_at hl 4 rfl) ?_
            refine gf_X8_84 hx hb hts hown hK hH hmcan_ rfl dX8_worthOf_368 ?_
            refine lv_iload hx hb dX8_worthOf_371 (lv_at hl 0 rfl) ?_
            refine hm_iald hx hb hK hH h15 (vp_in_nI (show L < 6 by omega) (by decide)) dX8_worthOf_373 ?_
            refine lv_topi (fun v23 ev23 => ?_)
            replace ev23 : v23 = nI to := ev23.trans (by show pn3 (nI L).toNatClampNeg = _; rw [nI_clamp (n := L) (by omega)]; exact hn3)
            subst ev23
            have hg1 : goN t to = true := bI_n.mp c19
            refine hm_callV (rest := []) (k := 2) q5_154 q5_156 q1_9 q5_157 q0_21 rfl nm_X8_pushed rfl hx hb hml hown hts hK hO hS hH hl.1 hmcan_ (c_X8_pushed Γ l m0 r mth mpl mga mtr (nI S1.2.1) (nI rr) S1.2.2.1 mli dz3 (nI (gainT t to)) S1.2.2.2.1 S1.2.2.2.2 fh3 msh msm mso msp mrf t to fcan_ hmcan_ ht15 hto) ⟨Nat.le_of_ble_eq_true rfl, Nat.le_of_ble_eq_true rfl⟩ ⟨Nat.le_of_ble_eq_true rfl, Nat.le_of_ble_eq_true rfl⟩ rfl (Nat.le_of_ble_eq_true rfl) dX8_worthOf_374 (fun v_ fpsh_ H locs hp_ hH hS => ?_)
            obtain ⟨rfl, efpsh_⟩ := hp_
            refine W.eq (g2 := F0 m 377 ls [.long (b4 (pushT t to))]) rfl ?_
            have hmfpsh_ : fpsh_ m0 = some (eM r mth mpl mga mtr (nI S1.2.1) (nI rr) S1.2.2.1 mli dz3 (nI (gainT t to)) S1.2.2.2.1 S1.2.2.2.2 fh3 msh msm mso msp mrf) := by rw [efpsh_]; exact hm_us
            have h24 : fpsh_ ((r 14)) = some (eJ Γ 64 (fun j => (S1.1 j).1)) := by rw [efpsh_]; exact (hm_un (hm_ne h5 hmcan_ (fun q => by cases q))).trans h5
            have h25 : fpsh_ ((r 15)) = some (eI Γ 64 (fun j => (S1.1 j).2.1)) := by rw [efpsh_]; exact (hm_un (hm_ne h6 hmcan_ (fun q => by cases q))).trans h6
            have h26 : fpsh_ ((r 16)) = some (eI Γ 64 (fun j => (S1.1 j).2.2.1)) := by rw [efpsh_]; exact (hm_un (hm_ne h7 hmcan_ (fun q => by cases q))).trans h7
            have h27 : fpsh_ ((r 17)) = some (eI Γ 64 (fun j => (S1.1 j).2.2.2.1)) := by rw [efpsh_]; exact (hm_un (hm_ne h8 hmcan_ (fun q => by cases q))).trans h8
            have h28 : fpsh_ ((r 18)) = some (eI Γ 64 (fun j => (S1.1 j).2.2.2.2.1)) := by rw [efpsh_]; exact (hm_un (hm_ne h9 hmcan_ (fun q => by cases q))).trans h9
            have h29 : fpsh_ ((r 19)) = some (eI Γ 64 (fun j => (S1.1 j).2.2.2.2.2.1)) := by rw [efpsh_]; exact (hm_un (hm_ne h10 hmcan_ (fun q => by cases q))).trans h10
            have h30 : fpsh_ ((r 20)) = some (eI Γ 64 (fun j => (S1.1 j).2.2.2.2.2.2)) := by rw [efpsh_]; exact (hm_un (hm_ne h11 hmcan_ (fun q => by cases q))).trans h11
            have h31 : fpsh_ ((r 21)) = some (eJ Γ 6 pb3) := by rw [efpsh_]; exact (hm_un (hm_ne h12 hmcan_ (fun q => by cases q))).trans h12
            have h32 : fpsh_ ((r 22)) = some (eI Γ 6 pz3) := by rw [efpsh_]; exact (hm_un (hm_ne h13 hmcan_ (fun q => by cases q))).trans h13
            have h33 : fpsh_ ((r 23)) = some (eI Γ 6 pd3) := by rw [efpsh_]; exact (hm_un (hm_ne h14 hmcan_ (fun q => by cases q))).trans h14
            have h34 : fpsh_ ((r 24)) = some (eI Γ 6 pn3) := by rw [efpsh_]; exact (hm_un (hm_ne h15 hmcan_ (fun q => by cases q))).trans h15
            have h35 : fpsh_ ((r 25)) = some (eI Γ 6 pe3) := by rw [efpsh_]; exact (hm_un (hm_ne h16 hmcan_ (fun q => by cases q))).trans h16
            have h36 : fpsh_ ((r 26)) = some (eI Γ 6 ph3) := by rw [efpsh_]; exact (hm_un (hm_ne h17 hmcan_ (fun q => by cases q))).trans h17
            have h37 : fpsh_ ((r 27)) = some (eI Γ 6 pg3) := by rw [efpsh_]; exact (hm_un (hm_ne h18 hmcan_ (fun q => by cases q))).trans h18
            refine lv_lstore (lv' := [(9, .long (b4 (pushT t to))), (6, .int (nI L)), (7, .int ((-1))), (8, .int 0), (5, .int (bI cb)), (0, .ref m0)]) hx hb dX8_worthOf_377 hl (by decide) rfl (fun ls hl => ?_)
            refine lv_aload_n hx hb dX8_worthOf_379 rfl (lv_at hl 5 rfl) ?_
            refine gf_X8_93 hx hb hts hown hK hH hmfpsh_ rfl dX8_worthOf_380 ?_
            refine lv_iload hx hb dX8_worthOf_383 (lv_at hl 1 rfl) ?_
            refine lv_aload_n hx hb dX8_worthOf_385 rfl (lv_at hl 5 rfl) ?_
            refine gf_X8_113 hx hb hts hown hK hH hmfpsh_ rfl dX8_worthOf_386 ?_
            refine hm_iast hx hb hK hO hS hH h37 (vp_in_nI (show L < 6 by omega) (by decide)) dX8_worthOf_389 (fun H locs hH hS => ?_)
            rw [nI_clamp (n := L) (by omega)] at hH
            obtain ⟨f38, ef38⟩ : ∃ zz_, zz_ = hm_up fpsh_ ((r 27)) (eI Γ 6 (upd pg3 L (nI (gainT t to)))) := ⟨_, rfl⟩
            have hH : hm_H Γ f38 H := by rw [ef38]; exact hH
            have h39 : f38 ((r 27)) = some (eI Γ 6 (upd pg3 L (nI (gainT t to)))) := by rw [ef38]; exact hm_us
            have h40 : f38 m0 = some (eM r mth mpl mga mtr (nI S1.2.1) (nI rr) S1.2.2.1 mli dz3 (nI (gainT t to)) S1.2.2.2.1 S1.2.2.2.2 fh3 msh msm mso msp mrf) := by rw [ef38]; exact (hm_un (hm_ne hmfpsh_ h37 (fun q => by cases q))).trans hmfpsh_
            have h41 : f38 ((r 14)) = some (eJ Γ 64 (fun j => (S1.1 j).1)) := by rw [ef38]; exact (hm_un (hrI 14 27 (by decide) (by decide) (by decide))).trans h24
            have h42 : f38 ((r 15)) = some (eI Γ 64 (fun j => (S1.1 j).2.1)) := by rw [ef38]; exact (hm_un (hrI 15 27 (by decide) (by decide) (by decide))).trans h25
            have h43 : f38 ((r 16)) = some (eI Γ 64 (fun j => (S1.1 j).2.2.1)) := by rw [ef38]; exact (hm_un (hrI 16 27 (by decide) (by decide) (by decide))).trans h26
            have h44 : f38 ((r 17)) = some (eI Γ 64 (fun j => (S1.1 j).2.2.2.1)) := by rw [ef38]; exact (hm_un (hrI 17 27 (by decide) (by decide) (by decide))).trans h27
            have h45 : f38 ((r 18)) = some (eI Γ 64 (fun j => (S1.1 j).2.2.2.2.1)) := by rw [ef38]; exact (hm_un (hrI 18 27 (by decide) (by decide) (by decide))).trans h28
            have h46 : f38 ((r 19)) = some (eI Γ 64 (fun j => (S1.1 j).2.2.2.2.2.1)) := by rw [ef38]; exact (hm_un (hrI 19 27 (by decide) (by decide) (by decide))).trans h29
            have h47 : f38 ((r 20)) = some (eI Γ 64 (fun j => (S1.1 j).2.2.2.2.2.2)) := by rw [ef38]; exact (hm_un (hrI 20 27 (by decide) (by decide) (by decide))).trans h30
            have h48 : f38 ((r 21)) = some (eJ Γ 6 pb3) := by rw [ef38]; exact (hm_un (hrI 21 27 (by decide) (by decide) (by decide))).trans h31
            have h49 : f38 ((r 22)) = some (eI Γ 6 pz3) := by rw [ef38]; exact (hm_un (hrI 22 27 (by decide) (by decide) (by decide))).trans h32
            have h50 : f38 ((r 23)) = some (eI Γ 6 pd3) := by rw [ef38]; exact (hm_un (hrI 23 27 (by decide) (by decide) (by decide))).trans h33
            have h51 : f38 ((r 24)) = some (eI Γ 6 pn3) := by rw [ef38]; exact (hm_un (hrI 24 27 (by decide) (by decide) (by decide))).trans h34
            have h52 : f38 ((r 25)) = some (eI Γ 6 pe3) := by rw [ef38]; exact (hm_un (hrI 25 27 (by decide) (by decide) (by decide))).trans h35
            have h53 : f38 ((r 26)) = some (eI Γ 6 ph3) := by rw [ef38]; exact (hm_un (hrI 26 27 (by decide) (by decide) (by decide))).trans h36
            refine lv_aload_n hx hb dX8_worthOf_390 rfl (lv_at hl 5 rfl) ?_
            refine gf_X8_84 hx hb hts hown hK hH h40 rfl dX8_worthOf_391 ?_
            refine lv_iload hx hb dX8_worthOf_394 (lv_at hl 1 rfl) ?_
            refine lv_dup2_11 hx hb dX8_worthOf_396 rfl rfl ?_
            refine hm_iald hx hb hK hH h51 (vp_in_nI (show L < 6 by omega) (by decide)) dX8_worthOf_397 ?_
            refine lv_topi (fun v54 ev54 => ?_)
            replace ev54 : v54 = nI to := ev54.trans (by show pn3 (nI L).toNatClampNeg = _; rw [nI_clamp (n := L) (by omega)]; exact hn3)
            subst ev54
            refine lv_iconst (v := 1) hx hb dX8_worthOf_398 (by decide) ?_
            refine lv_iadd hx hb dX8_worthOf_399 ?_
            refine lv_topi (fun v55 ev55 => ?_)
            replace ev55 : v55 = nI (to + 1) := ev55.trans (nI_1 to)
            subst ev55
            refine hm_iast hx hb hK hO hS hH h51 (vp_in_nI (show L < 6 by omega) (by decide)) dX8_worthOf_400 (fun H locs hH hS => ?_)
            rw [nI_clamp (n := L) (by omega)] at hH
            obtain ⟨f56, ef56⟩ : ∃ zz_, zz_ = hm_up f38 ((r 24)) (eI Γ 6 (upd pn3 L (nI (to + 1)))) := ⟨_, rfl⟩
            have hH : hm_H Γ f56 H := by rw [ef56]; exact hH
            have h57 : f56 ((r 24)) = some (eI Γ 6 (upd pn3 L (nI (to + 1)))) := by rw [ef56]; exact hm_us
            have h58 : f56 m0 = some (eM r mth mpl mga mtr (nI S1.2.1) (nI rr) S1.2.2.1 mli dz3 (nI (gainT t to)) S1.2.2.2.1 S1.2.2.2.2 fh3 msh msm mso msp mrf) := by rw [ef56]; exact (hm_un (hm_ne h40 h51 (fun q => by cases q))).trans h40
            have h59 : f56 ((r 14)) = some (eJ Γ 64 (fun j => (S1.1 j).1)) := by rw [ef56]; exact (hm_un (hrI 14 24 (by decide) (by decide) (by decide))).trans h41
            have h60 : f56 ((r 15)) = some (eI Γ 64 (fun j => (S1.1 j).2.1)) := by rw [ef56]; exact (hm_un (hrI 15 24 (by decide) (by decide) (by decide))).trans h42
            have h61 : f56 ((r 16)) = some (eI Γ 64 (fun j => (S1.1 j).2.2.1)) := by rw [ef56]; exact (hm_un (hrI 16 24 (by decide) (by decide) (by decide))).trans h43
            have h62 : f56 ((r 17)) = some (eI Γ 64 (fun j => (S1.1 j).2.2.2.1)) := by rw [ef56]; exact (hm_un (hrI 17 24 (by decide) (by decide) (by decide))).trans h44
            have h63 : f56 ((r 18)) = some (eI Γ 64 (fun j => (S1.1 j).2.2.2.2.1)) := by rw [ef56]; exact (hm_un (hrI 18 24 (by decide) (by decide) (by decide))).trans h45
            have h64 : f56 ((r 19)) = some (eI Γ 64 (fun j => (S1.1 j).2.2.2.2.2.1)) := by rw [ef56]; exact (hm_un (hrI 19 24 (by decide) (by decide) (by decide))).trans h46
            have h65 : f56 ((r 20)) = some (eI Γ 64 (fun j => (S1.1 j).2.2.2.2.2.2)) := by rw [ef56]; exact (hm_un (hrI 20 24 (by decide) (by decide) (by decide))).trans h47
            have h66 : f56 ((r 21)) = some (eJ Γ 6 pb3) := by rw [ef56]; exact (hm_un (hrI 21 24 (by decide) (by decide) (by decide))).trans h48
            have h67 : f56 ((r 22)) = some (eI Γ 6 pz3) := by rw [ef56]; exact (hm_un (hrI 22 24 (by decide) (by decide) (by decide))).trans h49
            have h68 : f56 ((r 23)) = some (eI Γ 6 pd3) := by rw [ef56]; exact (hm_un (hrI 23 24 (by decide) (by decide) (by decide))).trans h50
            have h69 : f56 ((r 25)) = some (eI Γ 6 pe3) := by rw [ef56]; exact (hm_un (hrI 25 24 (by decide) (by decide) (by decide))).trans h52
            have h70 : f56 ((r 26)) = some (eI Γ 6 ph3) := by rw [ef56]; exact (hm_un (hrI 26 24 (by decide) (by decide) (by decide))).trans h53
            have h71 : f56 ((r 27)) = some (eI Γ 6 (upd pg3 L (nI (gainT t to)))) := by rw [ef56]; exact (hm_un (hrI 27 24 (by decide) (by decide) (by decide))).trans h39
            refine lv_aload_n hx hb dX8_worthOf_401 rfl (lv_at hl 5 rfl) ?_
            refine gf_X8_75 hx hb hts hown hK hH h58 rfl dX8_worthOf_402 ?_
            refine lv_iload hx hb dX8_worthOf_405 (lv_at hl 1 rfl) ?_
            refine lv_iconst (v := 1) hx hb dX8_worthOf_407 (by decide) ?_
            refine lv_iadd hx hb dX8_worthOf_408 ?_
            refine lv_topi (fun v72 ev72 => ?_)
            replace ev72 : v72 = nI (L + 1) := ev72.trans (nI_1 L)
            subst ev72
            refine lv_aload_n hx hb dX8_worthOf_409 rfl (lv_at hl 5 rfl) ?_
            refine lv_lload hx hb dX8_worthOf_410 (lv_at hl 0 rfl) ?_
            refine lv_aload_n hx hb dX8_worthOf_412 rfl (lv_at hl 5 rfl) ?_
            refine gf_X8_78 hx hb hts hown hK hH h58 rfl dX8_worthOf_413 ?_
            refine lv_iload hx hb dX8_worthOf_416 (lv_at hl 1 rfl) ?_
            refine hm_iald hx hb hK hH h67 (vp_in_nI (show L < 6 by omega) (by decide)) dX8_worthOf_418 ?_
            refine lv_topi (fun v73 ev73 => ?_)
            replace ev73 : v73 = nI z := ev73.trans (by show pz3 (nI L).toNatClampNeg = _; rw [nI_clamp (n := L) (by omega)]; exact hz3)
            subst ev73
            refine hm_callV (rest := [.int (nI (L + 1)), .ref ((r 21))]) (k := 2) q5_127 q5_129 q1_9 q5_130 q0_18 rfl nm_X8_drawn rfl hx hb hml hown hts hK hO hS hH hl.1 h58 (c_X8_drawn Γ l m0 r mth mpl mga mtr (nI S1.2.1) (nI rr) S1.2.2.1 mli dz3 (nI (gainT t to)) S1.2.2.2.1 S1.2.2.2.2 fh3 msh msm mso msp mrf (pushT t to) z f56 h58 (pushT_lt ht15 hto) hz (push_gap hto hg1)) ⟨Nat.le_of_ble_eq_true rfl, Nat.le_of_ble_eq_true rfl⟩ ⟨Nat.le_of_ble_eq_true rfl, Nat.le_of_ble_eq_true rfl⟩ rfl (Nat.le_of_ble_eq_true rfl) dX8_worthOf_419 (fun v_ fdrw_ H locs hp_ hH hS => ?_)
            obtain ⟨rfl, efdrw_⟩ := hp_
            refine W.eq (g2 := F0 m 422 ls [.long (b4 (drawT (pushT t to) z)), .int (nI (L + 1)), .ref ((r 21))]) rfl ?_
            have hmfdrw_ : fdrw_ m0 = some (eM r mth mpl mga mtr (nI S1.2.1) (nI rr) S1.2.2.1 mli (nI (nxt (nxt z))) (nI (gainT t to)) S1.2.2.2.1 S1.2.2.2.2 fh3 msh msm mso msp mrf) := by rw [efdrw_]; exact hm_us
            have h74 : fdrw_ ((r 14)) = some (eJ Γ 64 (fun j => (S1.1 j).1)) := by rw [efdrw_]; exact (hm_un (hm_ne h59 h58 (fun q => by cases q))).trans h59
            have h75 : fdrw_ ((r 15)) = some (eI Γ 64 (fun j => (S1.1 j).2.1)) := by rw [efdrw_]; exact (hm_un (hm_ne h60 h58 (fun q => by cases q))).trans h60
            have h76 : fdrw_ ((r 16)) = some (eI Γ 64 (fun j => (S1.1 j).2.2.1)) := by rw [efdrw_]; exact (hm_un (hm_ne h61 h58 (fun q => by cases q))).trans h61
            have h77 : fdrw_ ((r 17)) = some (eI Γ 64 (fun j => (S1.1 j).2.2.2.1)) := by rw [efdrw_]; exact (hm_un (hm_ne h62 h58 (fun q => by cases q))).trans h62
            have h78 : fdrw_ ((r 18)) = some (eI Γ 64 (fun j => (S1.1 j).2.2.2.2.1)) := by rw [efdrw_]; exact (hm_un (hm_ne h63 h58 (fun q => by cases q))).trans h63
            have h79 : fdrw_ ((r 19)) = some (eI Γ 64 (fun j => (S1.1 j).2.2.2.2.2.1)) := by rw [efdrw_]; exact (hm_un (hm_ne h64 h58 (fun q => by cases q))).trans h64
            have h80 : fdrw_ ((r 20)) = some (eI Γ 64 (fun j => (S1.1 j).2.2.2.2.2.2)) := by rw [efdrw_]; exact (hm_un (hm_ne h65 h58 (fun q => by cases q))).trans h65
            have h81 : fdrw_ ((r 21)) = some (eJ Γ 6 pb3) := by rw [efdrw_]; exact (hm_un (hm_ne h66 h58 (fun q => by cases q))).trans h66
            have h82 : fdrw_ ((r 22)) = some (eI Γ 6 pz3) := by rw [efdrw_]; exact (hm_un (hm_ne h67 h58 (fun q => by cases q))).trans h67
            have h83 : fdrw_ ((r 23)) = some (eI Γ 6 pd3) := by rw [efdrw_]; exact (hm_un (hm_ne h68 h58 (fun q => by cases q))).trans h68
            have h84 : fdrw_ ((r 24)) = some (eI Γ 6 (upd pn3 L (nI (to + 1)))) := by rw [efdrw_]; exact (hm_un (hm_ne h57 h58 (fun q => by cases q))).trans h57
            have h85 : fdrw_ ((r 25)) = some (eI Γ 6 pe3) := by rw [efdrw_]; exact (hm_un (hm_ne h69 h58 (fun q => by cases q))).trans h69
            have h86 : fdrw_ ((r 26)) = some (eI Γ 6 ph3) := by rw [efdrw_]; exact (hm_un (hm_ne h70 h58 (fun q => by cases q))).trans h70
            have h87 : fdrw_ ((r 27)) = some (eI Γ 6 (upd pg3 L (nI (gainT t to)))) := by rw [efdrw_]; exact (hm_un (hm_ne h71 h58 (fun q => by cases q))).trans h71
            refine hm_last hx hb hK hO hS hH h81 (vp_in_nI (show L + 1 < 6 by omega) (by decide)) dX8_worthOf_422 (fun H locs hH hS => ?_)
            rw [nI_clamp (n := L + 1) (by omega)] at hH
            obtain ⟨f88, ef88⟩ : ∃ zz_, zz_ = hm_up fdrw_ ((r 21)) (eJ Γ 6 (vp_updL pb3 (L + 1) (b4 (drawT (pushT t to) z)))) := ⟨_, rfl⟩
            have hH : hm_H Γ f88 H := by rw [ef88]; exact hH
            have h89 : f88 ((r 21)) = some (eJ Γ 6 (vp_updL pb3 (L + 1) (b4 (drawT (pushT t to) z)))) := by rw [ef88]; exact hm_us
            have h90 : f88 m0 = some (eM r mth mpl mga mtr (nI S1.2.1) (nI rr) S1.2.2.1 mli (nI (nxt (nxt z))) (nI (gainT t to)) S1.2.2.2.1 S1.2.2.2.2 fh3 msh msm mso msp mrf) := by rw [ef88]; exact (hm_un (hm_ne hmfdrw_ h81 (fun q => by cases q))).trans hmfdrw_
            have h91 : f88 ((r 14)) = some (eJ Γ 64 (fun j => (S1.1 j).1)) := by rw [ef88]; exact (hm_un (hrI 14 21 (by decide) (by decide) (by decide))).trans h74
            have h92 : f88 ((r 15)) = some (eI Γ 64 (fun j => (S1.1 j).2.1)) := by rw [ef88]; exact (hm_un (hrI 15 21 (by decide) (by decide) (by decide))).trans h75
            have h93 : f88 ((r 16)) = some (eI Γ 64 (fun j => (S1.1 j).2.2.1)) := by rw [ef88]; exact (hm_un (hrI 16 21 (by decide) (by decide) (by decide))).trans h76
            have h94 : f88 ((r 17)) = some (eI Γ 64 (fun j => (S1.1 j).2.2.2.1)) := by rw [ef88]; exact (hm_un (hrI 17 21 (by decide) (by decide) (by decide))).trans h77
            have h95 : f88 ((r 18)) = some (eI Γ 64 (fun j => (S1.1 j).2.2.2.2.1)) := by rw [ef88]; exact (hm_un (hrI 18 21 (by decide) (by decide) (by decide))).trans h78
            have h96 : f88 ((r 19)) = some (eI Γ 64 (fun j => (S1.1 j).2.2.2.2.2.1)) := by rw [ef88]; exact (hm_un (hrI 19 21 (by decide) (by decide) (by decide))).trans h79
            have h97 : f88 ((r 20)) = some (eI Γ 64 (fun j => (S1.1 j).2.2.2.2.2.2)) := by rw [ef88]; exact (hm_un (hrI 20 21 (by decide) (by decide) (by decide))).trans h80
            have h98 : f88 ((r 22)) = some (eI Γ 6 pz3) := by rw [ef88]; exact (hm_un (hrI 22 21 (by decide) (by decide) (by decide))).trans h82
            have h99 : f88 ((r 23)) = some (eI Γ 6 pd3) := by rw [ef88]; exact (hm_un (hrI 23 21 (by decide) (by decide) (by decide))).trans h83
            have h100 : f88 ((r 24)) = some (eI Γ 6 (upd pn3 L (nI (to + 1)))) := by rw [ef88]; exact (hm_un (hrI 24 21 (by decide) (by decide) (by decide))).trans h84
            have h101 : f88 ((r 25)) = some (eI Γ 6 pe3) := by rw [ef88]; exact (hm_un (hrI 25 21 (by decide) (by decide) (by decide))).trans h85
            have h102 : f88 ((r 26)) = some (eI Γ 6 ph3) := by rw [ef88]; exact (hm_un (hrI 26 21 (by decide) (by decide) (by decide))).trans h86
            have h103 : f88 ((r 27)) = some (eI Γ 6 (upd pg3 L (nI (gainT t to)))) := by rw [ef88]; exact (hm_un (hrI 27 21 (by decide) (by decide) (by decide))).trans h87
            refine lv_aload_n hx hb dX8_worthOf_423 rfl (lv_at hl 5 rfl) ?_
            refine gf_X8_78 hx hb hts hown hK hH h90 rfl dX8_worthOf_424 ?_
            refine lv_iload hx hb dX8_worthOf_427 (lv_at hl 1 rfl) ?_
            refine lv_iconst (v := 1) hx hb dX8_worthOf_429 (by decide) ?_
            refine lv_iadd hx hb dX8_worthOf_430 ?_
            refine lv_topi (fun v104 ev104 => ?_)
            replace ev104 : v104 = nI (L + 1) := ev104.trans (nI_1 L)
            subst ev104
            refine lv_aload_n hx hb dX8_worthOf_431 rfl (lv_at hl 5 rfl) ?_
            refine gf_X8_135 hx hb hts hown hK hH h90 rfl dX8_worthOf_432 ?_
            refine hm_iast hx hb hK hO hS hH h98 (vp_in_nI (show L + 1 < 6 by omega) (by decide)) dX8_worthOf_435 (fun H locs hH hS => ?_)
            rw [nI_clamp (n := L + 1) (by omega)] at hH
            obtain ⟨f105, ef105⟩ : ∃ zz_, zz_ = hm_up f88 ((r 22)) (eI Γ 6 (upd pz3 (L + 1) (nI (nxt (nxt z))))) := ⟨_, rfl⟩
            have hH : hm_H Γ f105 H := by rw [ef105]; exact hH
            have h106 : f105 ((r 22)) = some (eI Γ 6 (upd pz3 (L + 1) (nI (nxt (nxt z))))) := by rw [ef105]; exact hm_us
            have h107 : f105 m0 = some (eM r mth mpl mga mtr (nI S1.2.1) (nI rr) S1.2.2.1 mli (nI (nxt (nxt z))) (nI (gainT t to)) S1.2.2.2.1 S1.2.2.2.2 fh3 msh msm mso msp mrf) := by rw [ef105]; exact (hm_un (hm_ne h90 h98 (fun q => by cases q))).trans h90
            have h108 : f105 ((r 14)) = some (eJ Γ 64 (fun j => (S1.1 j).1)) := by rw [ef105]; exact (hm_un (hrI 14 22 (by decide) (by decide) (by decide))).trans h91
            have h109 : f105 ((r 15)) = some (eI Γ 64 (fun j => (S1.1 j).2.1)) := by rw [ef105]; exact (hm_un (hrI 15 22 (by decide) (by decide) (by decide))).trans h92
            have h110 : f105 ((r 16)) = some (eI Γ 64 (fun j => (S1.1 j).2.2.1)) := by rw [ef105]; exact (hm_un (hrI 16 22 (by decide) (by decide) (by decide))).trans h93
            have h111 : f105 ((r 17)) = some (eI Γ 64 (fun j => (S1.1 j).2.2.2.1)) := by rw [ef105]; exact (hm_un (hrI 17 22 (by decide) (by decide) (by decide))).trans h94
            have h112 : f105 ((r 18)) = some (eI Γ 64 (fun j => (S1.1 j).2.2.2.2.1)) := by rw [ef105]; exact (hm_un (hrI 18 22 (by decide) (by decide) (by decide))).trans h95
            have h113 : f105 ((r 19)) = some (eI Γ 64 (fun j => (S1.1 j).2.2.2.2.2.1)) := by rw [ef105]; exact (hm_un (hrI 19 22 (by decide) (by decide) (by decide))).trans h96
            have h114 : f105 ((r 20)) = some (eI Γ 64 (fun j => (S1.1 j).2.2.2.2.2.2)) := by rw [ef105]; exact (hm_un (hrI 20 22 (by decide) (by decide) (by decide))).trans h97
            have h115 : f105 ((r 21)) = some (eJ Γ 6 (vp_updL pb3 (L + 1) (b4 (drawT (pushT t to) z)))) := by rw [ef105]; exact (hm_un (hrI 21 22 (by decide) (by decide) (by decide))).trans h89
            have h116 : f105 ((r 23)) = some (eI Γ 6 pd3) := by rw [ef105]; exact (hm_un (hrI 23 22 (by decide) (by decide) (by decide))).trans h99
            have h117 : f105 ((r 24)) = some (eI Γ 6 (upd pn3 L (nI (to + 1)))) := by rw [ef105]; exact (hm_un (hrI 24 22 (by decide) (by decide) (by decide))).trans h100
            have h118 : f105 ((r 25)) = some (eI Γ 6 pe3) := by rw [ef105]; exact (hm_un (hrI 25 22 (by decide) (by decide) (by decide))).trans h101
            have h119 : f105 ((r 26)) = some (eI Γ 6 ph3) := by rw [ef105]; exact (hm_un (hrI 26 22 (by decide) (by decide) (by decide))).trans h102
            have h120 : f105 ((r 27)) = some (eI Γ 6 (upd pg3 L (nI (gainT t to)))) := by rw [ef105]; exact (hm_un (hrI 27 22 (by decide) (by decide) (by decide))).trans h103
            refine lv_aload_n hx hb dX8_worthOf_436 rfl (lv_at hl 5 rfl) ?_
            refine gf_X8_81 hx hb hts hown hK hH h107 rfl dX8_worthOf_437 ?_
            refine lv_iload hx hb dX8_worthOf_440 (lv_at hl 1 rfl) ?_
            refine lv_iconst (v := 1) hx hb dX8_worthOf_442 (by decide) ?_
            refine lv_iadd hx hb dX8_worthOf_443 ?_
            refine lv_topi (fun v121 ev121 => ?_)
            replace ev121 : v121 = nI (L + 1) := ev121.trans (nI_1 L)
            subst ev121
            refine lv_aload_n hx hb dX8_worthOf_444 rfl (lv_at hl 5 rfl) ?_
            refine gf_X8_81 hx hb hts hown hK hH h107 rfl dX8_worthOf_445 ?_
            refine lv_iload hx hb dX8_worthOf_448 (lv_at hl 1 rfl) ?_
            refine hm_iald hx hb hK hH h116 (vp_in_nI (show L < 6 by omega) (by decide)) dX8_worthOf_450 ?_
            refine lv_topi (fun v122 ev122 => ?_)
            replace ev122 : v122 = nI (d + 1) := ev122.trans (by show pd3 (nI L).toNatClampNeg = _; rw [nI_clamp (n := L) (by omega)]; exact hd3)
            subst ev122
            refine lv_iconst (v := 1) hx hb dX8_worthOf_451 (by decide) ?_
            refine lv_isub hx hb dX8_worthOf_452 ?_
            refine lv_topi (fun v123 ev123 => ?_)
            replace ev123 : v123 = nI d := ev123.trans (nI_pred d)
            subst ev123
            refine hm_iast hx hb hK hO hS hH h116 (vp_in_nI (show L + 1 < 6 by omega) (by decide)) dX8_worthOf_453 (fun H locs hH hS => ?_)
            rw [nI_clamp (n := L + 1) (by omega)] at hH
            obtain ⟨f124, ef124⟩ : ∃ zz_, zz_ = hm_up f105 ((r 23)) (eI Γ 6 (upd pd3 (L + 1) (nI d))) := ⟨_, rfl⟩
            have hH : hm_H Γ f124 H := by rw [ef124]; exact hH
            have h125 : f124 ((r 23)) = some (eI Γ 6 (upd pd3 (L + 1) (nI d))) := by rw [ef124]; exact hm_us
            have h126 : f124 m0 = some (eM r mth mpl mga mtr (nI S1.2.1) (nI rr) S1.2.2.1 mli (nI (nxt (nxt z))) (nI (gainT t to)) S1.2.2.2.1 S1.2.2.2.2 fh3 msh msm mso msp mrf) := by rw [ef124]; exact (hm_un (hm_ne h107 h116 (fun q => by cases q))).trans h107
            have h127 : f124 ((r 14)) = some (eJ Γ 64 (fun j => (S1.1 j).1)) := by rw [ef124]; exact (hm_un (hrI 14 23 (by decide) (by decide) (by decide))).trans h108
            have h128 : f124 ((r 15)) = some (eI Γ 64 (fun j => (S1.1 j).2.1)) := by rw [ef124]; exact (hm_un (hrI 15 23 (by decide) (by decide) (by decide))).trans h109
            have h129 : f124 ((r 16)) = some (eI Γ 64 (fun j => (S1.1 j).2.2.1)) := by rw [ef124]; exact (hm_un (hrI 16 23 (by decide) (by decide) (by decide))).trans h110
            have h130 : f124 ((r 17)) = some (eI Γ 64 (fun j => (S1.1 j).2.2.2.1)) := by rw [ef124]; exact (hm_un (hrI 17 23 (by decide) (by decide) (by decide))).trans h111
            have h131 : f124 ((r 18)) = some (eI Γ 64 (fun j => (S1.1 j).2.2.2.2.1)) := by rw [ef124]; exact (hm_un (hrI 18 23 (by decide) (by decide) (by decide))).trans h112
            have h132 : f124 ((r 19)) = some (eI Γ 64 (fun j => (S1.1 j).2.2.2.2.2.1)) := by rw [ef124]; exact (hm_un (hrI 19 23 (by decide) (by decide) (by decide))).trans h113
            have h133 : f124 ((r 20)) = some (eI Γ 64 (fun j => (S1.1 j).2.2.2.2.2.2)) := by rw [ef124]; exact (hm_un (hrI 20 23 (by decide) (by decide) (by decide))).trans h114
            have h134 : f124 ((r 21)) = some (eJ Γ 6 (vp_updL pb3 (L + 1) (b4 (drawT (pushT t to) z)))) := by rw [ef124]; exact (hm_un (hrI 21 23 (by decide) (by decide) (by decide))).trans h115
            have h135 : f124 ((r 22)) = some (eI Γ 6 (upd pz3 (L + 1) (nI (nxt (nxt z))))) := by rw [ef124]; exact (hm_un (hrI 22 23 (by decide) (by decide) (by decide))).trans h106
            have h136 : f124 ((r 24)) = some (eI Γ 6 (upd pn3 L (nI (to + 1)))) := by rw [ef124]; exact (hm_un (hrI 24 23 (by decide) (by decide) (by decide))).trans h117
            have h137 : f124 ((r 25)) = some (eI Γ 6 pe3) := by rw [ef124]; exact (hm_un (hrI 25 23 (by decide) (by decide) (by decide))).trans h118
            have h138 : f124 ((r 26)) = some (eI Γ 6 ph3) := by rw [ef124]; exact (hm_un (hrI 26 23 (by decide) (by decide) (by decide))).trans h119
            have h139 : f124 ((r 27)) = some (eI Γ 6 (upd pg3 L (nI (gainT t to)))) := by rw [ef124]; exact (hm_un (hrI 27 23 (by decide) (by decide) (by decide))).trans h120
            refine lv_iinc (v := nI (L + 1)) (lv' := [(6, .int (nI (L + 1))), (9, .long (b4 (pushT t to))), (7, .int ((-1))), (8, .int 0), (5, .int (bI cb)), (0, .ref m0)]) hx hb dX8_worthOf_454 hl (k := 1) rfl (nI_1 L) (by decide) rfl (fun ls hl => ?_)
            refine lv_iconst (v := 1) hx hb dX8_worthOf_457 (by decide) ?_
            refine lv_istore (lv' := [(8, .int 1), (6, .int (nI (L + 1))), (9, .long (b4 (pushT t to))), (7, .int ((-1))), (5, .int (bI cb)), (0, .ref m0)]) hx hb dX8_worthOf_458 hl (by decide) rfl (fun ls hl => ?_)
            refine lv_goto (tgt := 31) hx hb dX8_worthOf_460 (by decide) ?_
            have hfrX : hm_fr (wS m0 r) f f124 := by
              rw [ef124, ef105, ef88, efdrw_, ef56, ef38, efpsh_, efcan_]
              exact ((((((((hfr3).up (Or.inl rfl)).up (Or.inl rfl)).up (Or.inr ⟨27, by decide, by decide, rfl⟩)).up (Or.inr ⟨24, by decide, by decide, rfl⟩)).up (Or.inl rfl)).up (Or.inr ⟨21, by decide, by decide, rfl⟩)).up (Or.inr ⟨22, by decide, by decide, rfl⟩)).up (Or.inr ⟨23, by decide, by decide, rfl⟩)
            have hne : L ≠ L + 1 := by omega
            refine ih (by omega) (L + 1) (drawT (pushT t to) z) (nxt (nxt z)) S1 _ _ _ _ (-1) (vp_updL pb3 (L + 1) (b4 (drawT (pushT t to) z))) (upd pz3 (L + 1) (nI (nxt (nxt z)))) (upd pd3 (L + 1) (nI d)) (upd pn3 L (nI (to + 1))) pe3 ph3 (upd pg3 L (nI (gainT t to))) (by omega) (by omega) (nxt_lt _) hmo1 ⟨h126, ⟨h127, h128, h129, h130, h131, h132, h133⟩, ⟨h134, h135, h125, h136, h137, h138, h139⟩⟩ updL_s upd_s upd_s hfrX ?_ H locs hH hS ls (lv_sub hl [1, 3, 0, 4, 5] rfl)
            intro f4 dz4 gd4 pb4 pz4 pd4 pn4 pe4 ph4 pg4 hHd4 hsm4 hfr4 H locs hH hS ls hl
            rw [lev_p] at hl
            obtain ⟨y1, y2, y3, y4, y5, y6, y7⟩ := hsm4 L (by omega)
            have hb4 : pb4 L = b4 t := y1.trans ((updL_n hne).trans hb3)
            have hz4 : pz4 L = nI z := y2.trans ((upd_n hne).trans hz3)
            have hd4_ : pd4 L = nI (d + 1) := y3.trans ((upd_n hne).trans hd3)
            have hn4 : pn4 L = nI (to + 1) := y4.trans upd_s
            have he4 : pe4 L = nI (bestF (goN t) (wv d t z) to).1 := y5.trans he3
            have hh4 : ph4 L = (bestF (goN t) (wv d t z) to).2 := y6.trans hh3
            have hg4 : pg4 L = nI (gainT t to) := y7.trans upd_s
            have hsm5 : (∀ j, j < L → pb4 j = pb j ∧ pz4 j = pz j ∧ pd4 j = pd j ∧ pn4 j = pn j ∧ pe4 j = pe j ∧ ph4 j = ph j ∧ pg4 j = pg j) := by
              intro j hj
              obtain ⟨q1, q2, q3, q4, q5, q6, q7⟩ := hsm j hj
              obtain ⟨x1, x2, x3, x4, x5, x6, x7⟩ := hsm4 j (by omega)
              exact ⟨x1.trans ((updL_n (by omega)).trans q1), x2.trans ((upd_n (by omega)).trans q2), x3.trans ((upd_n (by omega)).trans q3), x4.trans ((upd_n (by omega)).trans q4), x5.trans q5, x6.trans q6, x7.trans ((upd_n (by omega)).trans q7)⟩
            have hwl := wp_le (d := d) (t := (drawT (pushT t to) z)) (z := nxt (nxt z)) (by omega)
            obtain ⟨hm5, hKA5, hPA5⟩ := id hHd4
            obtain ⟨hx0, hx1, hx2, hx3, hx4, hx5, hx6⟩ := id hKA5
            obtain ⟨hy0, hy1, hy2, hy3, hy4, hy5, hy6⟩ := id hPA5
            refine lv_iload hx hb dX8_worthOf_31 (lv_at hl 0 rfl) ?_
            refine lv_if_lt (tgt := 500) hx hb dX8_worthOf_33 (by decide) (fun c640 => absurd c640 (nI_pos (by omega))) (fun _ => ?_)
            refine lv_iload hx hb dX8_worthOf_36 (lv_at hl 2 rfl) ?_
            refine lv_if_eq (tgt := 233) hx hb dX8_worthOf_38 (by decide) (fun _ => ?_) (fun c641 => absurd (by decide) c641)
            refine lv_iload hx hb dX8_worthOf_233 (lv_at hl 1 rfl) ?_
            refine lv_iconst (v := (-1)) hx hb dX8_worthOf_235 (by decide) ?_
            refine lv_icmp_eq (tgt := 302) hx hb dX8_worthOf_236 (by decide) (fun c642 => absurd c642 ((fun q => absurd (show (nI (wp d (drawT (pushT t to) z) (nxt (nxt z))).1) < 0 by rw [q]; decide) (nI_pos (by omega))))) (fun _ => ?_)
            refine lv_aload_n hx hb dX8_worthOf_239 rfl (lv_at hl 4 rfl) ?_
            refine gf_X8_93 hx hb hts hown hK hH hm5 rfl dX8_worthOf_240 ?_
            refine lv_iload hx hb dX8_worthOf_243 (lv_at hl 0 rfl) ?_
            refine hm_iald hx hb hK hH hy6 (vp_in_nI (show L < 6 by omega) (by decide)) dX8_worthOf_245 ?_
            refine lv_topi (fun v643 ev643 => ?_)
            replace ev643 : v643 = nI (gainT t to) := ev643.trans (by show pg4 (nI L).toNatClampNeg = _; rw [nI_clamp (n := L) (by omega)]; exact hg4)
            subst ev643
            refine lv_iload hx hb dX8_worthOf_246 (lv_at hl 1 rfl) ?_
            refine lv_iadd hx hb dX8_worthOf_248 ?_
            refine lv_topi (fun v644 ev644 => ?_)
            replace ev644 : v644 = nI (wv d t z to) := ev644.trans (nI_add _ _)
            subst ev644
            refine lv_istore (lv' := [(9, .int (nI (wv d t z to))), (6, .int (nI L)), (7, .int (nI (wp d (drawT (pushT t to) z) (nxt (nxt z))).1)), (8, .int 0), (5, .int (bI cb)), (0, .ref m0)]) hx hb dX8_worthOf_249 hl (by decide) rfl (fun ls hl => ?_)
            refine lv_aload_n hx hb dX8_worthOf_251 rfl (lv_at hl 5 rfl) ?_
            refine gf_X8_90 hx hb hts hown hK hH hm5 rfl dX8_worthOf_252 ?_
            refine lv_iload hx hb dX8_worthOf_255 (lv_at hl 1 rfl) ?_
            refine hm_iald hx hb hK hH hy5 (vp_in_nI (show L < 6 by omega) (by decide)) dX8_worthOf_257 ?_
            refine lv_topi (fun v645 ev645 => ?_)
            replace ev645 : v645 = (bestF (goN t) (wv d t z) to).2 := ev645.trans (by show ph4 (nI L).toNatClampNeg = _; rw [nI_clamp (n := L) (by omega)]; exact hh4)
            subst ev645
            refine lv_iconst (v := (-1)) hx hb dX8_worthOf_258 (by decide) ?_
            refine lv_icmp_eq (tgt := 274) hx hb dX8_worthOf_259 (by decide) (fun c646 => ?_) (fun c646 => ?_)
            · refine lv_aload_n hx hb dX8_worthOf_274 rfl (lv_at hl 5 rfl) ?_
              refine gf_X8_87 hx hb hts hown hK hH hm5 rfl dX8_worthOf_275 ?_
              refine lv_iload hx hb dX8_worthOf_278 (lv_at hl 1 rfl) ?_
              refine lv_iload hx hb dX8_worthOf_280 (lv_at hl 0 rfl) ?_
              refine hm_iast hx hb hK hO hS hH hy4 (vp_in_nI (show L < 6 by omega) (by decide)) dX8_worthOf_282 (fun H locs hH hS => ?_)
              rw [nI_clamp (n := L) (by omega)] at hH
              obtain ⟨f647, ef647⟩ : ∃ zz_, zz_ = hm_up f4 ((r 25)) (eI Γ 6 (upd pe4 L (nI (wv d t z to)))) := ⟨_, rfl⟩
              have hH : hm_H Γ f647 H := by rw [ef647]; exact hH
              have h648 : f647 ((r 25)) = some (eI Γ 6 (upd pe4 L (nI (wv d t z to)))) := by rw [ef647]; exact hm_us
              have h649 : f647 ((r 14)) = some (eJ Γ 64 (fun j => (((stM cb rr d t z to S1)).1 j).1)) := by rw [ef647]; exact (hm_un (hrI 14 25 (by decide) (by decide) (by decide))).trans hx0
              have h650 : f647 ((r 15)) = some (eI Γ 64 (fun j => (((stM cb rr d t z to S1)).1 j).2.1)) := by rw [ef647]; exact (hm_un (hrI 15 25 (by decide) (by decide) (by decide))).trans hx1
              have h651 : f647 ((r 16)) = some (eI Γ 64 (fun j => (((stM cb rr d t z to S1)).1 j).2.2.1)) := by rw [ef647]; exact (hm_un (hrI 16 25 (by decide) (by decide) (by decide))).trans hx2
              have h652 : f647 ((r 17)) = some (eI Γ 64 (fun j => (((stM cb rr d t z to S1)).1 j).2.2.2.1)) := by rw [ef647]; exact (hm_un (hrI 17 25 (by decide) (by decide) (by decide))).trans hx3
              have h653 : f647 ((r 18)) = some (eI Γ 64 (fun j => (((stM cb rr d t z to S1)).1 j).2.2.2.2.1)) := by rw [ef647]; exact (hm_un (hrI 18 25 (by decide) (by decide) (by decide))).trans hx4
              have h654 : f647 ((r 19)) = some (eI Γ 64 (fun j => (((stM cb rr d t z to S1)).1 j).2.2.2.2.2.1)) := by rw [ef647]; exact (hm_un (hrI 19 25 (by decide) (by decide) (by decide))).trans hx5
              have h655 : f647 ((r 20)) = some (eI Γ 64 (fun j => (((stM cb rr d t z to S1)).1 j).2.2.2.2.2.2)) := by rw [ef647]; exact (hm_un (hrI 20 25 (by decide) (by decide) (by decide))).trans hx6
              have h656 : f647 m0 = some (eM r mth mpl mga mtr (nI ((stM cb rr d t z to S1)).2.1) (nI rr) (((stM cb rr d t z to S1)).2.2.1) mli dz4 gd4 (((stM cb rr d t z to S1)).2.2.2.1) (((stM cb rr d t z to S1)).2.2.2.2) ((wp d (drawT (pushT t to) z) (nxt (nxt z))).2) msh msm mso msp mrf) := by rw [ef647]; exact (hm_un (hm_ne hm5 hy4 (fun q => by cases q))).trans hm5
              have h657 : f647 ((r 21)) = some (eJ Γ 6 pb4) := by rw [ef647]; exact (hm_un (hrI 21 25 (by decide) (by decide) (by decide))).trans hy0
              have h658 : f647 ((r 22)) = some (eI Γ 6 pz4) := by rw [ef647]; exact (hm_un (hrI 22 25 (by decide) (by decide) (by decide))).trans hy1
              have h659 : f647 ((r 23)) = some (eI Γ 6 pd4) := by rw [ef647]; exact (hm_un (hrI 23 25 (by decide) (by decide) (by decide))).trans hy2
              have h660 : f647 ((r 24)) = some (eI Γ 6 pn4) := by rw [ef647]; exact (hm_un (hrI 24 25 (by decide) (by decide) (by decide))).trans hy3
              have h661 : f647 ((r 26)) = some (eI Γ 6 ph4) := by rw [ef647]; exact (hm_un (hrI 26 25 (by decide) (by decide) (by decide))).trans hy5
              have h662 : f647 ((r 27)) = some (eI Γ 6 pg4) := by rw [ef647]; exact (hm_un (hrI 27 25 (by decide) (by decide) (by decide))).trans hy6
              refine lv_aload_n hx hb dX8_worthOf_283 rfl (lv_at hl 5 rfl) ?_
              refine gf_X8_90 hx hb hts hown hK hH h656 rfl dX8_worthOf_284 ?_
              refine lv_iload hx hb dX8_worthOf_287 (lv_at hl 1 rfl) ?_
              refine lv_aload_n hx hb dX8_worthOf_289 rfl (lv_at hl 5 rfl) ?_
              refine gf_X8_84 hx hb hts hown hK hH h656 rfl dX8_worthOf_290 ?_
              refine lv_iload hx hb dX8_worthOf_293 (lv_at hl 1 rfl) ?_
              refine hm_iald hx hb hK hH h660 (vp_in_nI (show L < 6 by omega) (by decide)) dX8_worthOf_295 ?_
              refine lv_topi (fun v663 ev663 => ?_)
              replace ev663 : v663 = nI (to + 1) := ev663.trans (by show pn4 (nI L).toNatClampNeg = _; rw [nI_clamp (n := L) (by omega)]; exact hn4)
              subst ev663
              refine lv_iconst (v := 1) hx hb dX8_worthOf_296 (by decide) ?_
              refine lv_isub hx hb dX8_worthOf_297 ?_
              refine lv_topi (fun v664 ev664 => ?_)
              replace ev664 : v664 = nI to := ev664.trans (nI_pred to)
              subst ev664
              refine hm_iast hx hb hK hO hS hH h661 (vp_in_nI (show L < 6 by omega) (by decide)) dX8_worthOf_298 (fun H locs hH hS => ?_)
              rw [nI_clamp (n := L) (by omega)] at hH
              obtain ⟨f665, ef665⟩ : ∃ zz_, zz_ = hm_up f647 ((r 26)) (eI Γ 6 (upd ph4 L (nI to))) := ⟨_, rfl⟩
              have hH : hm_H Γ f665 H := by rw [ef665]; exact hH
              have h666 : f665 ((r 26)) = some (eI Γ 6 (upd ph4 L (nI to))) := by rw [ef665]; exact hm_us
              have h667 : f665 ((r 14)) = some (eJ Γ 64 (fun j => (((stM cb rr d t z to S1)).1 j).1)) := by rw [ef665]; exact (hm_un (hrI 14 26 (by decide) (by decide) (by decide))).trans h649
              have h668 : f665 ((r 15)) = some (eI Γ 64 (fun j => (((stM cb rr d t z to S1)).1 j).2.1)) := by rw [ef665]; exact (hm_un (hrI 15 26 (by decide) (by decide) (by decide))).trans h650
              have h669 : f665 ((r 16)) = some (eI Γ 64 (fun j => (((stM cb rr d t z to S1)).1 j).2.2.1)) := by rw [ef665]; exact (hm_un (hrI 16 26 (by decide) (by decide) (by decide))).trans h651
              have h670 : f665 ((r 17)) = some (eI Γ 64 (fun j => (((stM cb rr d t z to S1)).1 j).2.2.2.1)) := by rw [ef665]; exact (hm_un (hrI 17 26 (by decide) (by decide) (by decide))).trans h652
              have h671 : f665 ((r 18)) = some (eI Γ 64 (fun j => (((stM cb rr d t z to S1)).1 j).2.2.2.2.1)) := by rw [ef665]; exact (hm_un (hrI 18 26 (by decide) (by decide) (by decide))).trans h653
              have h672 : f665 ((r 19)) = some (eI Γ 64 (fun j => (((stM cb rr d t z to S1)).1 j).2.2.2.2.2.1)) := by rw [ef665]; exact (hm_un (hrI 19 26 (by decide) (by decide) (by decide))).trans h654
              have h673 : f665 ((r 20)) = some (eI Γ 64 (fun j => (((stM cb rr d t z to S1)).1 j).2.2.2.2.2.2)) := by rw [ef665]; exact (hm_un (hrI 20 26 (by decide) (by decide) (by decide))).trans h655
              have h674 : f665 m0 = some (eM r mth mpl mga mtr (nI ((stM cb rr d t z to S1)).2.1) (nI rr) (((stM cb rr d t z to S1)).2.2.1) mli dz4 gd4 (((stM cb rr d t z to S1)).2.2.2.1) (((stM cb rr d t z to S1)).2.2.2.2) ((wp d (drawT (pushT t to) z) (nxt (nxt z))).2) msh msm mso msp mrf) := by rw [ef665]; exact (hm_un (hm_ne h656 h661 (fun q => by cases q))).trans h656
              have h675 : f665 ((r 21)) = some (eJ Γ 6 pb4) := by rw [ef665]; exact (hm_un (hrI 21 26 (by decide) (by decide) (by decide))).trans h657
              have h676 : f665 ((r 22)) = some (eI Γ 6 pz4) := by rw [ef665]; exact (hm_un (hrI 22 26 (by decide) (by decide) (by decide))).trans h658
              have h677 : f665 ((r 23)) = some (eI Γ 6 pd4) := by rw [ef665]; exact (hm_un (hrI 23 26 (by decide) (by decide) (by decide))).trans h659
              have h678 : f665 ((r 24)) = some (eI Γ 6 pn4) := by rw [ef665]; exact (hm_un (hrI 24 26 (by decide) (by decide) (by decide))).trans h660
              have h679 : f665 ((r 25)) = some (eI Γ 6 (upd pe4 L (nI (wv d t z to)))) := by rw [ef665]; exact (hm_un (hrI 25 26 (by decide) (by decide) (by decide))).trans h648
              have h680 : f665 ((r 27)) = some (eI Γ 6 pg4) := by rw [ef665]; exact (hm_un (hrI 27 26 (by decide) (by decide) (by decide))).trans h662
              refine lv_iconst (v := (-1)) hx hb dX8_worthOf_299 (by decide) ?_
              refine lv_istore (lv' := [(7, .int ((-1))), (9, .int (nI (wv d t z to))), (6, .int (nI L)), (8, .int 0), (5, .int (bI cb)), (0, .ref m0)]) hx hb dX8_worthOf_300 hl (by decide) rfl (fun ls hl => ?_)
              have hbe := bestF_n hg1 (Or.inl c646)
              have hfrX : hm_fr (wS m0 r) f f665 := by
                rw [ef665, ef647]
                exact ((hfr4).up (Or.inr ⟨25, by decide, by decide, rfl⟩)).up (Or.inr ⟨26, by decide, by decide, rfl⟩)
              refine ihk (to + 1) (stM cb rr d t z to S1) _ _ _ _ pb4 pz4 pd4 pn4 (upd pe4 L (nI (wv d t z to))) (upd ph4 L (nI to)) pg4 (by omega) (by rw [foldM_n hg1, ← hS1]) ⟨h674, ⟨h667, h668, h669, h670, h671, h672, h673⟩, ⟨h675, h676, h677, h678, h679, h666, h680⟩⟩ hb4 hz4 hd4_ hn4 ?_ ?_ (fun j hj => ?_) hfrX H locs hH hS ls (lv_sub hl [2, 0, 3, 4, 5] rfl)
              · rw [hbe]; exact upd_s
              · rw [hbe]; exact upd_s
              · obtain ⟨q1, q2, q3, q4, q5, q6, q7⟩ := hsm5 j hj
                exact ⟨q1, q2, q3, q4, (upd_n (by omega)).trans q5, (upd_n (by omega)).trans q6, q7⟩
            · refine lv_iload hx hb dX8_worthOf_262 (lv_at hl 0 rfl) ?_
              refine lv_aload_n hx hb dX8_worthOf_264 rfl (lv_at hl 5 rfl) ?_
              refine gf_X8_87 hx hb hts hown hK hH hm5 rfl dX8_worthOf_265 ?_
              refine lv_iload hx hb dX8_worthOf_268 (lv_at hl 1 rfl) ?_
              refine hm_iald hx hb hK hH hy4 (vp_in_nI (show L < 6 by omega) (by decide)) dX8_worthOf_270 ?_
              refine lv_topi (fun v681 ev681 => ?_)
              replace ev681 : v681 = nI (bestF (goN t) (wv d t z) to).1 := ev681.trans (by show pe4 (nI L).toNatClampNeg = _; rw [nI_clamp (n := L) (by omega)]; exact he4)
              subst ev681
              refine lv_icmp_le (tgt := 299) hx hb dX8_worthOf_271 (by decide) (fun c682 => ?_) (fun c682 => ?_)
              · refine lv_iconst (v := (-1)) hx hb dX8_worthOf_299 (by decide) ?_
                refine lv_istore (lv' := [(7, .int ((-1))), (9, .int (nI (wv d t z to))), (6, .int (nI L)), (8, .int 0), (5, .int (bI cb)), (0, .ref m0)]) hx hb dX8_worthOf_300 hl (by decide) rfl (fun ls hl => ?_)
                have hbe := bestF_o hg1 (fun q => q.elim (fun q => c646 q) (fun q => absurd (Int32.le_iff_toInt_le.mp c682) (by rw [nI_toInt (by omega), nI_toInt (by omega)]; omega)))
                have hfrX : hm_fr (wS m0 r) f f4 := by
                  exact hfr4
                refine ihk (to + 1) (stM cb rr d t z to S1) _ _ _ _ pb4 pz4 pd4 pn4 pe4 ph4 pg4 (by omega) (by rw [foldM_n hg1, ← hS1]) ⟨hm5, ⟨hx0, hx1, hx2, hx3, hx4, hx5, hx6⟩, ⟨hy0, hy1, hy2, hy3, hy4, hy5, hy6⟩⟩ hb4 hz4 hd4_ hn4 ?_ ?_ (fun j hj => ?_) hfrX H locs hH hS ls (lv_sub hl [2, 0, 3, 4, 5] rfl)
                · rw [hbe]; exact he4
                · rw [hbe]; exact hh4
                · exact hsm5 j hj
              · refine lv_aload_n hx hb dX8_worthOf_274 rfl (lv_at hl 5 rfl) ?_
                refine gf_X8_87 hx hb hts hown hK hH hm5 rfl dX8_worthOf_275 ?_
                refine lv_iload hx hb dX8_worthOf_278 (lv_at hl 1 rfl) ?_
                refine lv_iload hx hb dX8_worthOf_280 (lv_at hl 0 rfl) ?_
                refine hm_iast hx hb hK hO hS hH hy4 (vp_in_nI (show L < 6 by omega) (by decide)) dX8_worthOf_282 (fun H locs hH hS => ?_)
                rw [nI_clamp (n := L) (by omega)] at hH
                obtain ⟨f683, ef683⟩ : ∃ zz_, zz_ = hm_up f4 ((r 25)) (eI Γ 6 (upd pe4 L (nI (wv d t z to)))) := ⟨_, rfl⟩
                have hH : hm_H Γ f683 H := by rw [ef683]; exact hH
                have h684 : f683 ((r 25)) = some (eI Γ 6 (upd pe4 L (nI (wv d t z to)))) := by rw [ef683]; exact hm_us
                have h685 : f683 ((r 14)) = some (eJ Γ 64 (fun j => (((stM cb rr d t z to S1)).1 j).1)) := by rw [ef683]; exact (hm_un (hrI 14 25 (by decide) (by decide) (by decide))).trans hx0
                have h686 : f683 ((r 15)) = some (eI Γ 64 (fun j => (((stM cb rr d t z to S1)).1 j).2.1)) := by rw [ef683]; exact (hm_un (hrI 15 25 (by decide) (by decide) (by decide))).trans hx1
                have h687 : f683 ((r 16)) = some (eI Γ 64 (fun j => (((stM cb rr d t z to S1)).1 j).2.2.1)) := by rw [ef683]; exact (hm_un (hrI 16 25 (by decide) (by decide) (by decide))).trans hx2
                have h688 : f683 ((r 17)) = some (eI Γ 64 (fun j => (((stM cb rr d t z to S1)).1 j).2.2.2.1)) := by rw [ef683]; exact (hm_un (hrI 17 25 (by decide) (by decide) (by decide))).trans hx3
                have h689 : f683 ((r 18)) = some (eI Γ 64 (fun j => (((stM cb rr d t z to S1)).1 j).2.2.2.2.1)) := by rw [ef683]; exact (hm_un (hrI 18 25 (by decide) (by decide) (by decide))).trans hx4
                have h690 : f683 ((r 19)) = some (eI Γ 64 (fun j => (((stM cb rr d t z to S1)).1 j).2.2.2.2.2.1)) := by rw [ef683]; exact (hm_un (hrI 19 25 (by decide) (by decide) (by decide))).trans hx5
                have h691 : f683 ((r 20)) = some (eI Γ 64 (fun j => (((stM cb rr d t z to S1)).1 j).2.2.2.2.2.2)) := by rw [ef683]; exact (hm_un (hrI 20 25 (by decide) (by decide) (by decide))).trans hx6
                have h692 : f683 m0 = some (eM r mth mpl mga mtr (nI ((stM cb rr d t z to S1)).2.1) (nI rr) (((stM cb rr d t z to S1)).2.2.1) mli dz4 gd4 (((stM cb rr d t z to S1)).2.2.2.1) (((stM cb rr d t z to S1)).2.2.2.2) ((wp d (drawT (pushT t to) z) (nxt (nxt z))).2) msh msm mso msp mrf) := by rw [ef683]; exact (hm_un (hm_ne hm5 hy4 (fun q => by cases q))).trans hm5
                have h693 : f683 ((r 21)) = some (eJ Γ 6 pb4) := by rw [ef683]; exact (hm_un (hrI 21 25 (by decide) (by decide) (by decide))).trans hy0
                have h694 : f683 ((r 22)) = some (eI Γ 6 pz4) := by rw [ef683]; exact (hm_un (hrI 22 25 (by decide) (by decide) (by decide))).trans hy1
                have h695 : f683 ((r 23)) = some (eI Γ 6 pd4) := by rw [ef683]; exact (hm_un (hrI 23 25 (by decide) (by decide) (by decide))).trans hy2
                have h696 : f683 ((r 24)) = some (eI Γ 6 pn4) := by rw [ef683]; exact (hm_un (hrI 24 25 (by decide) (by decide) (by decide))).trans hy3
                have h697 : f683 ((r 26)) = some (eI Γ 6 ph4) := by rw [ef683]; exact (hm_un (hrI 26 25 (by decide) (by decide) (by decide))).trans hy5
                have h698 : f683 ((r 27)) = some (eI Γ 6 pg4) := by rw [ef683]; exact (hm_un (hrI 27 25 (by decide) (by decide) (by decide))).trans hy6
                refine lv_aload_n hx hb dX8_worthOf_283 rfl (lv_at hl 5 rfl) ?_
                refine gf_X8_90 hx hb hts hown hK hH h692 rfl dX8_worthOf_284 ?_
                refine lv_iload hx hb dX8_worthOf_287 (lv_at hl 1 rfl) ?_
                refine lv_aload_n hx hb dX8_worthOf_289 rfl (lv_at hl 5 rfl) ?_
                refine gf_X8_84 hx hb hts hown hK hH h692 rfl dX8_worthOf_290 ?_
                refine lv_iload hx hb dX8_worthOf_293 (lv_at hl 1 rfl) ?_
                refine hm_iald hx hb hK hH h696 (vp_in_nI (show L < 6 by omega) (by decide)) dX8_worthOf_295 ?_
                refine lv_topi (fun v699 ev699 => ?_)
                replace ev699 : v699 = nI (to + 1) := ev699.trans (by show pn4 (nI L).toNatClampNeg = _; rw [nI_clamp (n := L) (by omega)]; exact hn4)
                subst ev699
                refine lv_iconst (v := 1) hx hb dX8_worthOf_296 (by decide) ?_
                refine lv_isub hx hb dX8_worthOf_297 ?_
                refine lv_topi (fun v700 ev700 => ?_)
                replace ev700 : v700 = nI to := ev700.trans (nI_pred to)
                subst ev700
                refine hm_iast hx hb hK hO hS hH h697 (vp_in_nI (show L < 6 by omega) (by decide)) dX8_worthOf_298 (fun H locs hH hS => ?_)
                rw [nI_clamp (n := L) (by omega)] at hH
                obtain ⟨f701, ef701⟩ : ∃ zz_, zz_ = hm_up f683 ((r 26)) (eI Γ 6 (upd ph4 L (nI to))) := ⟨_, rfl⟩
                have hH : hm_H Γ f701 H := by rw [ef701]; exact hH
                have h702 : f701 ((r 26)) = some (eI Γ 6 (upd ph4 L (nI to))) := by rw [ef701]; exact hm_us
                have h703 : f701 ((r 14)) = some (eJ Γ 64 (fun j => (((stM cb rr d t z to S1)).1 j).1)) := by rw [ef701]; exact (hm_un (hrI 14 26 (by decide) (by decide) (by decide))).trans h685
                have h704 : f701 ((r 15)) = some (eI Γ 64 (fun j => (((stM cb rr d t z to S1)).1 j).2.1)) := by rw [ef701]; exact (hm_un (hrI 15 26 (by decide) (by decide) (by decide))).trans h686
                have h705 : f701 ((r 16)) = some (eI Γ 64 (fun j => (((stM cb rr d t z to S1)).1 j).2.2.1)) := by rw [ef701]; exact (hm_un (hrI 16 26 (by decide) (by decide) (by decide))).trans h687
                have h706 : f701 ((r 17)) = some (eI Γ 64 (fun j => (((stM cb rr d t z to S1)).1 j).2.2.2.1)) := by rw [ef701]; exact (hm_un (hrI 17 26 (by decide) (by decide) (by decide))).trans h688
                have h707 : f701 ((r 18)) = some (eI Γ 64 (fun j => (((stM cb rr d t z to S1)).1 j).2.2.2.2.1)) := by rw [ef701]; exact (hm_un (hrI 18 26 (by decide) (by decide) (by decide))).trans h689
                have h708 : f701 ((r 19)) = some (eI Γ 64 (fun j => (((stM cb rr d t z to S1)).1 j).2.2.2.2.2.1)) := by rw [ef701]; exact (hm_un (hrI 19 26 (by decide) (by decide) (by decide))).trans h690
                have h709 : f701 ((r 20)) = some (eI Γ 64 (fun j => (((stM cb rr d t z to S1)).1 j).2.2.2.2.2.2)) := by rw [ef701]; exact (hm_un (hrI 20 26 (by decide) (by decide) (by decide))).trans h691
                have h710 : f701 m0 = some (eM r mth mpl mga mtr (nI ((stM cb rr d t z to S1)).2.1) (nI rr) (((stM cb rr d t z to S1)).2.2.1) mli dz4 gd4 (((stM cb rr d t z to S1)).2.2.2.1) (((stM cb rr d t z to S1)).2.2.2.2) ((wp d (drawT (pushT t to) z) (nxt (nxt z))).2) msh msm mso msp mrf) := by rw [ef701]; exact (hm_un (hm_ne h692 h697 (fun q => by cases q))).trans h692
                have h711 : f701 ((r 21)) = some (eJ Γ 6 pb4) := by rw [ef701]; exact (hm_un (hrI 21 26 (by decide) (by decide) (by decide))).trans h693
                have h712 : f701 ((r 22)) = some (eI Γ 6 pz4) := by rw [ef701]; exact (hm_un (hrI 22 26 (by decide) (by decide) (by decide))).trans h694
                have h713 : f701 ((r 23)) = some (eI Γ 6 pd4) := by rw [ef701]; exact (hm_un (hrI 23 26 (by decide) (by decide) (by decide))).trans h695
                have h714 : f701 ((r 24)) = some (eI Γ 6 pn4) := by rw [ef701]; exact (hm_un (hrI 24 26 (by decide) (by decide) (by decide))).trans h696
                have h715 : f701 ((r 25)) = some (eI Γ 6 (upd pe4 L (nI (wv d t z to)))) := by rw [ef701]; exact (hm_un (hrI 25 26 (by decide) (by decide) (by decide))).trans h684
                have h716 : f701 ((r 27)) = some (eI Γ 6 pg4) := by rw [ef701]; exact (hm_un (hrI 27 26 (by decide) (by decide) (by decide))).trans h698
                refine lv_iconst (v := (-1)) hx hb dX8_worthOf_299 (by decide) ?_
                refine lv_istore (lv' := [(7, .int ((-1))), (9, .int (nI (wv d t z to))), (6, .int (nI L)), (8, .int 0), (5, .int (bI cb)), (0, .ref m0)]) hx hb dX8_worthOf_300 hl (by decide) rfl (fun ls hl => ?_)
                have hbe := bestF_n hg1 (Or.inr ((nI_ltI (by omega) (by omega)).mp (Int32.not_le.mp c682)))
                have hfrX : hm_fr (wS m0 r) f f701 := by
                  rw [ef701, ef683]
                  exact ((hfr4).up (Or.inr ⟨25, by decide, by decide, rfl⟩)).up (Or.inr ⟨26, by decide, by decide, rfl⟩)
                refine ihk (to + 1) (stM cb rr d t z to S1) _ _ _ _ pb4 pz4 pd4 pn4 (upd pe4 L (nI (wv d t z to))) (upd ph4 L (nI to)) pg4 (by omega) (by rw [foldM_n hg1, ← hS1]) ⟨h710, ⟨h703, h704, h705, h706, h707, h708, h709⟩, ⟨h711, h712, h713, h714, h715, h702, h716⟩⟩ hb4 hz4 hd4_ hn4 ?_ ?_ (fun j hj => ?_) hfrX H locs hH hS ls (lv_sub hl [2, 0, 3, 4, 5] rfl)
                · rw [hbe]; exact upd_s
                · rw [hbe]; exact upd_s
                · obtain ⟨q1, q2, q3, q4, q5, q6, q7⟩ := hsm5 j hj
                  exact ⟨q1, q2, q3, q4, (upd_n (by omega)).trans q5, (upd_n (by omega)).trans q6, q7⟩
          · refine lv_aload_n hx hb dX8_worthOf_334 rfl (lv_at hl 4 rfl) ?_
            refine gf_X8_84 hx hb hts hown hK hH hmcan_ rfl dX8_worthOf_335 ?_
            refine lv_iload hx hb dX8_worthOf_338 (lv_at hl 0 rfl) ?_
            refine lv_dup2_11 hx hb dX8_worthOf_340 rfl rfl ?_
            refine hm_iald hx hb hK hH h15 (vp_in_nI (show L < 6 by omega) (by decide)) dX8_worthOf_341 ?_
            refine lv_topi (fun v140 ev140 => ?_)
            replace ev140 : v140 = nI to := ev140.trans (by show pn3 (nI L).toNatClampNeg = _; rw [nI_clamp (n := L) (by omega)]; exact hn3)
            subst ev140
            refine lv_iconst (v := 1) hx hb dX8_worthOf_342 (by decide) ?_
            refine lv_iadd hx hb dX8_worthOf_343 ?_
            refine lv_topi (fun v141 ev141 => ?_)
            replace ev141 : v141 = nI (to + 1) := ev141.trans (nI_1 to)
            subst ev141
            refine hm_iast hx hb hK hO hS hH h15 (vp_in_nI (show L < 6 by omega) (by decide)) dX8_worthOf_344 (fun H locs hH hS => ?_)
            rw [nI_clamp (n := L) (by omega)] at hH
            obtain ⟨f142, ef142⟩ : ∃ zz_, zz_ = hm_up fcan_ ((r 24)) (eI Γ 6 (upd pn3 L (nI (to + 1)))) := ⟨_, rfl⟩
            have hH : hm_H Γ f142 H := by rw [ef142]; exact hH
            have h143 : f142 ((r 24)) = some (eI Γ 6 (upd pn3 L (nI (to + 1)))) := by rw [ef142]; exact hm_us
            have h144 : f142 m0 = some (eM r mth mpl mga mtr (nI S1.2.1) (nI rr) S1.2.2.1 mli dz3 (nI (gainT t to)) S1.2.2.2.1 S1.2.2.2.2 fh3 msh msm mso msp mrf) := by rw [ef142]; exact (hm_un (hm_ne hmcan_ h15 (fun q => by cases q))).trans hmcan_
            have h145 : f142 ((r 14)) = some (eJ Γ 64 (fun j => (S1.1 j).1)) := by rw [ef142]; exact (hm_un (hrI 14 24 (by decide) (by decide) (by decide))).trans h5
            have h146 : f142 ((r 15)) = some (eI Γ 64 (fun j => (S1.1 j).2.1)) := by rw [ef142]; exact (hm_un (hrI 15 24 (by decide) (by decide) (by decide))).trans h6
            have h147 : f142 ((r 16)) = some (eI Γ 64 (fun j => (S1.1 j).2.2.1)) := by rw [ef142]; exact (hm_un (hrI 16 24 (by decide) (by decide) (by decide))).trans h7
            have h148 : f142 ((r 17)) = some (eI Γ 64 (fun j => (S1.1 j).2.2.2.1)) := by rw [ef142]; exact (hm_un (hrI 17 24 (by decide) (by decide) (by decide))).trans h8
            have h149 : f142 ((r 18)) = some (eI Γ 64 (fun j => (S1.1 j).2.2.2.2.1)) := by rw [ef142]; exact (hm_un (hrI 18 24 (by decide) (by decide) (by decide))).trans h9
            have h150 : f142 ((r 19)) = some (eI Γ 64 (fun j => (S1.1 j).2.2.2.2.2.1)) := by rw [ef142]; exact (hm_un (hrI 19 24 (by decide) (by decide) (by decide))).trans h10
            have h151 : f142 ((r 20)) = some (eI Γ 64 (fun j => (S1.1 j).2.2.2.2.2.2)) := by rw [ef142]; exact (hm_un (hrI 20 24 (by decide) (by decide) (by decide))).trans h11
            have h152 : f142 ((r 21)) = some (eJ Γ 6 pb3) := by rw [ef142]; exact (hm_un (hrI 21 24 (by decide) (by decide) (by decide))).trans h12
            have h153 : f142 ((r 22)) = some (eI Γ 6 pz3) := by rw [ef142]; exact (hm_un (hrI 22 24 (by decide) (by decide) (by decide))).trans h13
            have h154 : f142 ((r 23)) = some (eI Γ 6 pd3) := by rw [ef142]; exact (hm_un (hrI 23 24 (by decide) (by decide) (by decide))).trans h14
            have h155 : f142 ((r 25)) = some (eI Γ 6 pe3) := by rw [ef142]; exact (hm_un (hrI 25 24 (by decide) (by decide) (by decide))).trans h16
            have h156 : f142 ((r 26)) = some (eI Γ 6 ph3) := by rw [ef142]; exact (hm_un (hrI 26 24 (by decide) (by decide) (by decide))).trans h17
            have h157 : f142 ((r 27)) = some (eI Γ 6 pg3) := by rw [ef142]; exact (hm_un (hrI 27 24 (by decide) (by decide) (by decide))).trans h18
            refine lv_goto (tgt := 302) hx hb dX8_worthOf_345 (by decide) ?_
            have hg0 : goN t to = false := bI_0.mp c19
            have hfrX : hm_fr (wS m0 r) f f142 := by
              rw [ef142, efcan_]
              exact ((hfr3).up (Or.inl rfl)).up (Or.inr ⟨24, by decide, by decide, rfl⟩)
            refine ihk (to + 1) S1 _ _ _ _ pb3 pz3 pd3 (upd pn3 L (nI (to + 1))) pe3 ph3 pg3 (by omega) (by rw [foldM_s hg0]; exact hS1) ⟨h144, ⟨h145, h146, h147, h148, h149, h150, h151⟩, ⟨h152, h153, h154, h143, h155, h156, h157⟩⟩ hb3 hz3 hd3 upd_s (by rw [bestF_s hg0]; exact he3) (by rw [bestF_s hg0]; exact hh3) (fun j hj => ?_) hfrX H locs hH hS ls (lv_sub hl [0, 1, 2, 3, 4] rfl)
            obtain ⟨q1, q2, q3, q4, q5, q6, q7⟩ := hsm j hj
            exact ⟨q1, q2, q3, (upd_n (by omega)).trans q4, q5, q6, q7⟩
      obtain ⟨hm1, hKA1, hPA1⟩ := id hHd
      obtain ⟨hk0, hk1, hk2, hk3, hk4, hk5, hk6⟩ := id hKA1
      obtain ⟨hp0, hp1, hp2, hp3, hp4, hp5, hp6⟩ := id hPA1
      refine lv_iload hx hb dX8_worthOf_31 (lv_at hl 0 rfl) ?_
      refine lv_if_lt (tgt := 500) hx hb dX8_worthOf_33 (by decide) (fun c1 => absurd c1 (nI_pos (by omega))) (fun _ => ?_)
      refine lv_iload hx hb dX8_worthOf_36 (lv_at hl 2 rfl) ?_
      refine lv_if_eq (tgt := 233) hx hb dX8_worthOf_38 (by decide) (fun c2 => absurd c2 (by decide)) (fun _ => ?_)
      refine lv_iconst (v := 0) hx hb dX8_worthOf_41 (by decide) ?_
      refine lv_istore (lv' := [(8, .int 0), (6, .int (nI L)), (7, .int fo), (5, .int (bI cb)), (0, .ref m0)]) hx hb dX8_worthOf_42 hl (by decide) rfl (fun ls hl => ?_)
      refine lv_iload hx hb dX8_worthOf_44 (lv_at hl 3 rfl) ?_
      refine lv_if_eq (tgt := 87) hx hb dX8_worthOf_46 (by decide) (fun c3 => ?_) (fun c3 => ?_)
      · refine lv_iconst (v := (-1)) hx hb dX8_worthOf_87 (by decide) ?_
        refine lv_istore (lv' := [(9, .int ((-1))), (8, .int 0), (6, .int (nI L)), (7, .int fo), (5, .int (bI cb)), (0, .ref m0)]) hx hb dX8_worthOf_88 hl (by decide) rfl (fun ls hl => ?_)
        refine lv_aload_n hx hb dX8_worthOf_90 rfl (lv_at hl 5 rfl) ?_
        refine gf_X8_81 hx hb hts hown hK hH hm1 rfl dX8_worthOf_91 ?_
        refine lv_iload hx hb dX8_worthOf_94 (lv_at hl 2 rfl) ?_
        refine hm_iald hx hb hK hH hp2 (vp_in_nI (show L < 6 by omega) (by decide)) dX8_worthOf_96 ?_
        refine lv_topi (fun v4 ev4 => ?_)
        replace ev4 : v4 = nI (d + 1) := ev4.trans (by show pd (nI L).toNatClampNeg = _; rw [nI_clamp (n := L) (by omega)]; exact hpd)
        subst ev4
        refine lv_if_eq (tgt := 106) hx hb dX8_worthOf_97 (by decide) (fun c5 => absurd c5 ((nI_ne0 (n := d + 1) (by omega) (by omega)))) (fun _ => ?_)
        refine lv_iload hx hb dX8_worthOf_100 (lv_at hl 0 rfl) ?_
        refine lv_iconst (v := (-1)) hx hb dX8_worthOf_102 (by decide) ?_
        refine lv_icmp_eq (tgt := 196) hx hb dX8_worthOf_103 (by decide) (fun _ => ?_) (fun c6 => absurd (by decide) c6)
        refine lv_aload_n hx hb dX8_worthOf_196 rfl (lv_at hl 5 rfl) ?_
        refine lv_dup hx hb dX8_worthOf_197 rfl ?_
        refine gf_X8_193 hx hb hts hown hK hH hm1 rfl dX8_worthOf_198 ?_
        refine lv_iconst (v := 1) hx hb dX8_worthOf_201 (by decide) ?_
        refine lv_iadd hx hb dX8_worthOf_202 ?_
        refine lv_topi (fun v7 ev7 => ?_)
        replace ev7 : v7 = (S.2.2.2.2 + 1) := ev7.trans (rfl)
        subst ev7
        refine pf_X8_193 hx hb hts hown hK hO hS hH hm1 rfl (Nat.le_of_ble_eq_true rfl) rfl dX8_worthOf_203 (fun H locs hH hS => ?_)
        obtain ⟨f8, ef8⟩ : ∃ zz_, zz_ = hm_up f1 m0 (eM r mth mpl mga mtr (nI S.2.1) (nI rr) S.2.2.1 mli dz gd S.2.2.2.1 ((S.2.2.2.2 + 1)) fh msh msm mso msp mrf) := ⟨_, rfl⟩
        have hH : hm_H Γ f8 H := by rw [ef8]; exact hH
        have h9 : f8 m0 = some (eM r mth mpl mga mtr (nI S.2.1) (nI rr) S.2.2.1 mli dz gd S.2.2.2.1 ((S.2.2.2.2 + 1)) fh msh msm mso msp mrf) := by rw [ef8]; exact hm_us
        have h10 : f8 ((r 14)) = some (eJ Γ 64 (fun j => (S.1 j).1)) := by rw [ef8]; exact (hm_un (hm_ne hk0 hm1 (fun q => by cases q))).trans hk0
        have h11 : f8 ((r 15)) = some (eI Γ 64 (fun j => (S.1 j).2.1)) := by rw [ef8]; exact (hm_un (hm_ne hk1 hm1 (fun q => by cases q))).trans hk1
        have h12 : f8 ((r 16)) = some (eI Γ 64 (fun j => (S.1 j).2.2.1)) := by rw [ef8]; exact (hm_un (hm_ne hk2 hm1 (fun q => by cases q))).trans hk2
        have h13 : f8 ((r 17)) = some (eI Γ 64 (fun j => (S.1 j).2.2.2.1)) := by rw [ef8]; exact (hm_un (hm_ne hk3 hm1 (fun q => by cases q))).trans hk3
        have h14 : f8 ((r 18)) = some (eI Γ 64 (fun j => (S.1 j).2.2.2.2.1)) := by rw [ef8]; exact (hm_un (hm_ne hk4 hm1 (fun q => by cases q))).trans hk4
        have h15 : f8 ((r 19)) = some (eI Γ 64 (fun j => (S.1 j).2.2.2.2.2.1)) := by rw [ef8]; exact (hm_un (hm_ne hk5 hm1 (fun q => by cases q))).trans hk5
        have h16 : f8 ((r 20)) = some (eI Γ 64 (fun j => (S.1 j).2.2.2.2.2.2)) := by rw [ef8]; exact (hm_un (hm_ne hk6 hm1 (fun q => by cases q))).trans hk6
        have h17 : f8 ((r 21)) = some (eJ Γ 6 pb) := by rw [ef8]; exact (hm_un (hm_ne hp0 hm1 (fun q => by cases q))).trans hp0
        have h18 : f8 ((r 22)) = some (eI Γ 6 pz) := by rw [ef8]; exact (hm_un (hm_ne hp1 hm1 (fun q => by cases q))).trans hp1
        have h19 : f8 ((r 23)) = some (eI Γ 6 pd) := by rw [ef8]; exact (hm_un (hm_ne hp2 hm1 (fun q => by cases q))).trans hp2
        have h20 : f8 ((r 24)) = some (eI Γ 6 pn) := by rw [ef8]; exact (hm_un (hm_ne hp3 hm1 (fun q => by cases q))).trans hp3
        have h21 : f8 ((r 25)) = some (eI Γ 6 pe) := by rw [ef8]; exact (hm_un (hm_ne hp4 hm1 (fun q => by cases q))).trans hp4
        have h22 : f8 ((r 26)) = some (eI Γ 6 ph) := by rw [ef8]; exact (hm_un (hm_ne hp5 hm1 (fun q => by cases q))).trans hp5
        have h23 : f8 ((r 27)) = some (eI Γ 6 pg) := by rw [ef8]; exact (hm_un (hm_ne hp6 hm1 (fun q => by cases q))).trans hp6
        refine lv_aload_n hx hb dX8_worthOf_206 rfl (lv_at hl 5 rfl) ?_
        refine gf_X8_84 hx hb hts hown hK hH h9 rfl dX8_worthOf_207 ?_
        refine lv_iload hx hb dX8_worthOf_210 (lv_at hl 2 rfl) ?_
        refine lv_iconst (v := 0) hx hb dX8_worthOf_212 (by decide) ?_
        refine hm_iast hx hb hK hO hS hH h20 (vp_in_nI (show L < 6 by omega) (by decide)) dX8_worthOf_213 (fun H locs hH hS => ?_)
        rw [nI_clamp (n := L) (by omega)] at hH
        obtain ⟨f24, ef24⟩ : ∃ zz_, zz_ = hm_up f8 ((r 24)) (eI Γ 6 (upd pn L 0)) := ⟨_, rfl⟩
        have hH : hm_H Γ f24 H := by rw [ef24]; exact hH
        have h25 : f24 ((r 24)) = some (eI Γ 6 (upd pn L 0)) := by rw [ef24]; exact hm_us
        have h26 : f24 ((r 14)) = some (eJ Γ 64 (fun j => (S.1 j).1)) := by rw [ef24]; exact (hm_un (hrI 14 24 (by decide) (by decide) (by decide))).trans h10
        have h27 : f24 ((r 15)) = some (eI Γ 64 (fun j => (S.1 j).2.1)) := by rw [ef24]; exact (hm_un (hrI 15 24 (by decide) (by decide) (by decide))).trans h11
        have h28 : f24 ((r 16)) = some (eI Γ 64 (fun j => (S.1 j).2.2.1)) := by rw [ef24]; exact (hm_un (hrI 16 24 (by decide) (by decide) (by decide))).trans h12
        have h29 : f24 ((r 17)) = some (eI Γ 64 (fun j => (S.1 j).2.2.2.1)) := by rw [ef24]; exact (hm_un (hrI 17 24 (by decide) (by decide) (by decide))).trans h13
        have h30 : f24 ((r 18)) = some (eI Γ 64 (fun j => (S.1 j).2.2.2.2.1)) := by rw [ef24]; exact (hm_un (hrI 18 24 (by decide) (by decide) (by decide))).trans h14
        have h31 : f24 ((r 19)) = some (eI Γ 64 (fun j => (S.1 j).2.2.2.2.2.1)) := by rw [ef24]; exact (hm_un (hrI 19 24 (by decide) (by decide) (by decide))).trans h15
        have h32 : f24 ((r 20)) = some (eI Γ 64 (fun j => (S.1 j).2.2.2.2.2.2)) := by rw [ef24]; exact (hm_un (hrI 20 24 (by decide) (by decide) (by decide))).trans h16
        have h33 : f24 m0 = some (eM r mth mpl mga mtr (nI S.2.1) (nI rr) S.2.2.1 mli dz gd S.2.2.2.1 ((S.2.2.2.2 + 1)) fh msh msm mso msp mrf) := by rw [ef24]; exact (hm_un (hm_ne h9 h20 (fun q => by cases q))).trans h9
        have h34 : f24 ((r 21)) = some (eJ Γ 6 pb) := by rw [ef24]; exact (hm_un (hrI 21 24 (by decide) (by decide) (by decide))).trans h17
        have h35 : f24 ((r 22)) = some (eI Γ 6 pz) := by rw [ef24]; exact (hm_un (hrI 22 24 (by decide) (by decide) (by decide))).trans h18
        have h36 : f24 ((r 23)) = some (eI Γ 6 pd) := by rw [ef24]; exact (hm_un (hrI 23 24 (by decide) (by decide) (by decide))).trans h19
        have h37 : f24 ((r 25)) = some (eI Γ 6 pe) := by rw [ef24]; exact (hm_un (hrI 25 24 (by decide) (by decide) (by decide))).trans h21
        have h38 : f24 ((r 26)) = some (eI Γ 6 ph) := by rw [ef24]; exact (hm_un (hrI 26 24 (by decide) (by decide) (by decide))).trans h22
        have h39 : f24 ((r 27)) = some (eI Γ 6 pg) := by rw [ef24]; exact (hm_un (hrI 27 24 (by decide) (by decide) (by decide))).trans h23
        refine lv_aload_n hx hb dX8_worthOf_214 rfl (lv_at hl 5 rfl) ?_
        refine gf_X8_87 hx hb hts hown hK hH h33 rfl dX8_worthOf_215 ?_
        refine lv_iload hx hb dX8_worthOf_218 (lv_at hl 2 rfl) ?_
        refine lv_iconst (v := 0) hx hb dX8_worthOf_220 (by decide) ?_
        refine hm_iast hx hb hK hO hS hH h37 (vp_in_nI (show L < 6 by omega) (by decide)) dX8_worthOf_221 (fun H locs hH hS => ?_)
        rw [nI_clamp (n := L) (by omega)] at hH
        obtain ⟨f40, ef40⟩ : ∃ zz_, zz_ = hm_up f24 ((r 25)) (eI Γ 6 (upd pe L 0)) := ⟨_, rfl⟩
        have hH : hm_H Γ f40 H := by rw [ef40]; exact hH
        have h41 : f40 ((r 25)) = some (eI Γ 6 (upd pe L 0)) := by rw [ef40]; exact hm_us
        have h42 : f40 ((r 14)) = some (eJ Γ 64 (fun j => (S.1 j).1)) := by rw [ef40]; exact (hm_un (hrI 14 25 (by decide) (by decide) (by decide))).trans h26
        have h43 : f40 ((r 15)) = some (eI Γ 64 (fun j => (S.1 j).2.1)) := by rw [ef40]; exact (hm_un (hrI 15 25 (by decide) (by decide) (by decide))).trans h27
        have h44 : f40 ((r 16)) = some (eI Γ 64 (fun j => (S.1 j).2.2.1)) := by rw [ef40]; exact (hm_un (hrI 16 25 (by decide) (by decide) (by decide))).trans h28
        have h45 : f40 ((r 17)) = some (eI Γ 64 (fun j => (S.1 j).2.2.2.1)) := by rw [ef40]; exact (hm_un (hrI 17 25 (by decide) (by decide) (by decide))).trans h29
        have h46 : f40 ((r 18)) = some (eI Γ 64 (fun j => (S.1 j).2.2.2.2.1)) := by rw [ef40]; exact (hm_un (hrI 18 25 (by decide) (by decide) (by decide))).trans h30
        have h47 : f40 ((r 19)) = some (eI Γ 64 (fun j => (S.1 j).2.2.2.2.2.1)) := by rw [ef40]; exact (hm_un (hrI 19 25 (by decide) (by decide) (by decide))).trans h31
        have h48 : f40 ((r 20)) = some (eI Γ 64 (fun j => (S.1 j).2.2.2.2.2.2)) := by rw [ef40]; exact (hm_un (hrI 20 25 (by decide) (by decide) (by decide))).trans h32
        have h49 : f40 m0 = some (eM r mth mpl mga mtr (nI S.2.1) (nI rr) S.2.2.1 mli dz gd S.2.2.2.1 ((S.2.2.2.2 + 1)) fh msh msm mso msp mrf) := by rw [ef40]; exact (hm_un (hm_ne h33 h37 (fun q => by cases q))).trans h33
        have h50 : f40 ((r 21)) = some (eJ Γ 6 pb) := by rw [ef40]; exact (hm_un (hrI 21 25 (by decide) (by decide) (by decide))).trans h34
        have h51 : f40 ((r 22)) = some (eI Γ 6 pz) := by rw [ef40]; exact (hm_un (hrI 22 25 (by decide) (by decide) (by decide))).trans h35
        have h52 : f40 ((r 23)) = some (eI Γ 6 pd) := by rw [ef40]; exact (hm_un (hrI 23 25 (by decide) (by decide) (by decide))).trans h36
        have h53 : f40 ((r 24)) = some (eI Γ 6 (upd pn L 0)) := by rw [ef40]; exact (hm_un (hrI 24 25 (by decide) (by decide) (by decide))).trans h25
        have h54 : f40 ((r 26)) = some (eI Γ 6 ph) := by rw [ef40]; exact (hm_un (hrI 26 25 (by decide) (by decide) (by decide))).trans h38
        have h55 : f40 ((r 27)) = some (eI Γ 6 pg) := by rw [ef40]; exact (hm_un (hrI 27 25 (by decide) (by decide) (by decide))).trans h39
        refine lv_aload_n hx hb dX8_worthOf_222 rfl (lv_at hl 5 rfl) ?_
        refine gf_X8_90 hx hb hts hown hK hH h49 rfl dX8_worthOf_223 ?_
        refine lv_iload hx hb dX8_worthOf_226 (lv_at hl 2 rfl) ?_
        refine lv_iconst (v := (-1)) hx hb dX8_worthOf_228 (by decide) ?_
        refine hm_iast hx hb hK hO hS hH h54 (vp_in_nI (show L < 6 by omega) (by decide)) dX8_worthOf_229 (fun H locs hH hS => ?_)
        rw [nI_clamp (n := L) (by omega)] at hH
        obtain ⟨f56, ef56⟩ : ∃ zz_, zz_ = hm_up f40 ((r 26)) (eI Γ 6 (upd ph L ((-1)))) := ⟨_, rfl⟩
        have hH : hm_H Γ f56 H := by rw [ef56]; exact hH
        have h57 : f56 ((r 26)) = some (eI Γ 6 (upd ph L ((-1)))) := by rw [ef56]; exact hm_us
        have h58 : f56 ((r 14)) = some (eJ Γ 64 (fun j => (S.1 j).1)) := by rw [ef56]; exact (hm_un (hrI 14 26 (by decide) (by decide) (by decide))).trans h42
        have h59 : f56 ((r 15)) = some (eI Γ 64 (fun j => (S.1 j).2.1)) := by rw [ef56]; exact (hm_un (hrI 15 26 (by decide) (by decide) (by decide))).trans h43
        have h60 : f56 ((r 16)) = some (eI Γ 64 (fun j => (S.1 j).2.2.1)) := by rw [ef56]; exact (hm_un (hrI 16 26 (by decide) (by decide) (by decide))).trans h44
        have h61 : f56 ((r 17)) = some (eI Γ 64 (fun j => (S.1 j).2.2.2.1)) := by rw [ef56]; exact (hm_un (hrI 17 26 (by decide) (by decide) (by decide))).trans h45
        have h62 : f56 ((r 18)) = some (eI Γ 64 (fun j => (S.1 j).2.2.2.2.1)) := by rw [ef56]; exact (hm_un (hrI 18 26 (by decide) (by decide) (by decide))).trans h46
        have h63 : f56 ((r 19)) = some (eI Γ 64 (fun j => (S.1 j).2.2.2.2.2.1)) := by rw [ef56]; exact (hm_un (hrI 19 26 (by decide) (by decide) (by decide))).trans h47
        have h64 : f56 ((r 20)) = some (eI Γ 64 (fun j => (S.1 j).2.2.2.2.2.2)) := by rw [ef56]; exact (hm_un (hrI 20 26 (by decide) (by decide) (by decide))).trans h48
        have h65 : f56 m0 = some (eM r mth mpl mga mtr (nI S.2.1) (nI rr) S.2.2.1 mli dz gd S.2.2.2.1 ((S.2.2.2.2 + 1)) fh msh msm mso msp mrf) := by rw [ef56]; exact (hm_un (hm_ne h49 h54 (fun q => by cases q))).trans h49
        have h66 : f56 ((r 21)) = some (eJ Γ 6 pb) := by rw [ef56]; exact (hm_un (hrI 21 26 (by decide) (by decide) (by decide))).trans h50
        have h67 : f56 ((r 22)) = some (eI Γ 6 pz) := by rw [ef56]; exact (hm_un (hrI 22 26 (by decide) (by decide) (by decide))).trans h51
        have h68 : f56 ((r 23)) = some (eI Γ 6 pd) := by rw [ef56]; exact (hm_un (hrI 23 26 (by decide) (by decide) (by decide))).trans h52
        have h69 : f56 ((r 24)) = some (eI Γ 6 (upd pn L 0)) := by rw [ef56]; exact (hm_un (hrI 24 26 (by decide) (by decide) (by decide))).trans h53
        have h70 : f56 ((r 25)) = some (eI Γ 6 (upd pe L 0)) := by rw [ef56]; exact (hm_un (hrI 25 26 (by decide) (by decide) (by decide))).trans h41
        have h71 : f56 ((r 27)) = some (eI Γ 6 pg) := by rw [ef56]; exact (hm_un (hrI 27 26 (by decide) (by decide) (by decide))).trans h55
        refine lv_iconst (v := (-1)) hx hb dX8_worthOf_230 (by decide) ?_
        refine lv_istore (lv' := [(7, .int ((-1))), (9, .int ((-1))), (8, .int 0), (6, .int (nI L)), (5, .int (bI cb)), (0, .ref m0)]) hx hb dX8_worthOf_231 hl (by decide) rfl (fun ls hl => ?_)
        refine lv_iload hx hb dX8_worthOf_233 (lv_at hl 0 rfl) ?_
        refine lv_iconst (v := (-1)) hx hb dX8_worthOf_235 (by decide) ?_
        refine lv_icmp_eq (tgt := 302) hx hb dX8_worthOf_236 (by decide) (fun _ => ?_) (fun c72 => absurd (by decide) c72)
        have hfrX : hm_fr (wS m0 r) f f56 := by
          rw [ef56, ef40, ef24, ef8]
          exact ((((hfr).up (Or.inl rfl)).up (Or.inr ⟨24, by decide, by decide, rfl⟩)).up (Or.inr ⟨25, by decide, by decide, rfl⟩)).up (Or.inr ⟨26, by decide, by decide, rfl⟩)
        refine dir (fun hc => absurd hc (by rw [bI_0.mp c3]; decide)) 4 0 (missM S) _ _ _ _ pb pz pd (upd pn L 0) (upd pe L 0) (upd ph L ((-1))) pg (by omega) rfl ⟨h65, ⟨h58, h59, h60, h61, h62, h63, h64⟩, ⟨h66, h67, h68, h69, h70, h57, h71⟩⟩ hpb hpz hpd upd_s upd_s upd_s (fun j hj => ?_) hfrX H locs hH hS ls (lv_sub hl [3, 0, 2, 4, 5] rfl)
        exact ⟨rfl, rfl, rfl, upd_n (by omega), upd_n (by omega), upd_n (by omega), rfl⟩
      · refine lv_aload_n hx hb dX8_worthOf_49 rfl (lv_at hl 4 rfl) ?_
        refine gf_X8_81 hx hb hts hown hK hH hm1 rfl dX8_worthOf_50 ?_
        refine lv_iload hx hb dX8_worthOf_53 (lv_at hl 1 rfl) ?_
        refine hm_iald hx hb hK hH hp2 (vp_in_nI (show L < 6 by omega) (by decide)) dX8_worthOf_55 ?_
        refine lv_topi (fun v73 ev73 => ?_)
        replace ev73 : v73 = nI (d + 1) := ev73.trans (by show pd (nI L).toNatClampNeg = _; rw [nI_clamp (n := L) (by omega)]; exact hpd)
        subst ev73
        refine lv_if_le (tgt := 87) hx hb dX8_worthOf_56 (by decide) (fun c74 => absurd c74 ((nI_nle (n := d + 1) (by omega) (by omega)))) (fun _ => ?_)
        refine lv_aload_n hx hb dX8_worthOf_59 rfl (lv_at hl 4 rfl) ?_
        refine lv_aload_n hx hb dX8_worthOf_60 rfl (lv_at hl 4 rfl) ?_
        refine gf_X8_75 hx hb hts hown hK hH hm1 rfl dX8_worthOf_61 ?_
        refine lv_iload hx hb dX8_worthOf_64 (lv_at hl 1 rfl) ?_
        refine hm_lald hx hb hK hH hp0 (vp_in_nI (show L < 6 by omega) (by decide)) dX8_worthOf_66 ?_
        refine lv_topl (fun v75 ev75 => ?_)
        replace ev75 : v75 = b4 t := ev75.trans (by show pb (nI L).toNatClampNeg = _; rw [nI_clamp (n := L) (by omega)]; exact hpb)
        subst ev75
        refine lv_aload_n hx hb dX8_worthOf_67 rfl (lv_at hl 4 rfl) ?_
        refine gf_X8_78 hx hb hts hown hK hH hm1 rfl dX8_worthOf_68 ?_
        refine lv_iload hx hb dX8_worthOf_71 (lv_at hl 1 rfl) ?_
        refine hm_iald hx hb hK hH hp1 (vp_in_nI (show L < 6 by omega) (by decide)) dX8_worthOf_73 ?_
        refine lv_topi (fun v76 ev76 => ?_)
        replace ev76 : v76 = nI z := ev76.trans (by show pz (nI L).toNatClampNeg = _; rw [nI_clamp (n := L) (by omega)]; exact hpz)
        subst ev76
        refine lv_aload_n hx hb dX8_worthOf_74 rfl (lv_at hl 4 rfl) ?_
        refine gf_X8_81 hx hb hts hown hK hH hm1 rfl dX8_worthOf_75 ?_
        refine lv_iload hx hb dX8_worthOf_78 (lv_at hl 1 rfl) ?_
        refine hm_iald hx hb hK hH hp2 (vp_in_nI (show L < 6 by omega) (by decide)) dX8_worthOf_80 ?_
        refine lv_topi (fun v77 ev77 => ?_)
        replace ev77 : v77 = nI (d + 1) := ev77.trans (by show pd (nI L).toNatClampNeg = _; rw [nI_clamp (n := L) (by omega)]; exact hpd)
        subst ev77
        have hcb : cb = true := bI_n.mp c3
        refine hm_callV (rest := []) (k := 1) q5_217 q5_219 q1_9 q5_220 q0_27 rfl nm_X8_find rfl hx hb hml hown hts hK hO hS hH hl.1 hm1 (c_X8_find Γ l m0 r mth mpl mga mtr (nI rr) S.2.2.1 mli dz gd S.2.2.2.1 S.2.2.2.2 fh msh msm mso msp mrf S.2.1 S.1 (b4 t) (nI z) (nI (d + 1)) f1 hm1 hKA1 (by have := hmo.1; omega)) ⟨Nat.le_of_ble_eq_true rfl, Nat.le_of_ble_eq_true rfl⟩ ⟨Nat.le_of_ble_eq_true rfl, Nat.le_of_ble_eq_true rfl⟩ rfl (Nat.le_of_ble_eq_true rfl) dX8_worthOf_81 (fun v_ f_ H locs hp_ hH hS => ?_)
        obtain ⟨hp_, ef_⟩ := hp_
        rw [ef_] at hH
        clear ef_
        rcases hp_ with ⟨rfl, hno⟩ | ⟨i, hi, hpi, hj, rfl⟩
        · refine W.eq (g2 := F0 m 84 ls [.int (-1)]) rfl ?_
          refine lv_goto (tgt := 88) hx hb dX8_worthOf_84 (by decide) ?_
          refine lv_istore (lv' := [(9, .int ((-1))), (8, .int 0), (6, .int (nI L)), (7, .int fo), (5, .int (bI cb)), (0, .ref m0)]) hx hb dX8_worthOf_88 hl (by decide) rfl (fun ls hl => ?_)
          refine lv_aload_n hx hb dX8_worthOf_90 rfl (lv_at hl 5 rfl) ?_
          refine gf_X8_81 hx hb hts hown hK hH hm1 rfl dX8_worthOf_91 ?_
          refine lv_iload hx hb dX8_worthOf_94 (lv_at hl 2 rfl) ?_
          refine hm_iald hx hb hK hH hp2 (vp_in_nI (show L < 6 by omega) (by decide)) dX8_worthOf_96 ?_
          refine lv_topi (fun v78 ev78 => ?_)
          replace ev78 : v78 = nI (d + 1) := ev78.trans (by show pd (nI L).toNatClampNeg = _; rw [nI_clamp (n := L) (by omega)]; exact hpd)
          subst ev78
          refine lv_if_eq (tgt := 106) hx hb dX8_worthOf_97 (by decide) (fun c79 => absurd c79 ((nI_ne0 (n := d + 1) (by omega) (by omega)))) (fun _ => ?_)
          refine lv_iload hx hb dX8_worthOf_100 (lv_at hl 0 rfl) ?_
          refine lv_iconst (v := (-1)) hx hb dX8_worthOf_102 (by decide) ?_
          refine lv_icmp_eq (tgt := 196) hx hb dX8_worthOf_103 (by decide) (fun _ => ?_) (fun c80 => absurd (by decide) c80)
          refine lv_aload_n hx hb dX8_worthOf_196 rfl (lv_at hl 5 rfl) ?_
          refine lv_dup hx hb dX8_worthOf_197 rfl ?_
          refine gf_X8_193 hx hb hts hown hK hH hm1 rfl dX8_worthOf_198 ?_
          refine lv_iconst (v := 1) hx hb dX8_worthOf_201 (by decide) ?_
          refine lv_iadd hx hb dX8_worthOf_202 ?_
          refine lv_topi (fun v81 ev81 => ?_)
          replace ev81 : v81 = (S.2.2.2.2 + 1) := ev81.trans (rfl)
          subst ev81
          refine pf_X8_193 hx hb hts hown hK hO hS hH hm1 rfl (Nat.le_of_ble_eq_true rfl) rfl dX8_worthOf_203 (fun H locs hH hS => ?_)
          obtain ⟨f82, ef82⟩ : ∃ zz_, zz_ = hm_up f1 m0 (eM r mth mpl mga mtr (nI S.2.1) (nI rr) S.2.2.1 mli dz gd S.2.2.2.1 ((S.2.2.2.2 + 1)) fh msh msm mso msp mrf) := ⟨_, rfl⟩
          have hH : hm_H Γ f82 H := by rw [ef82]; exact hH
          have h83 : f82 m0 = some (eM r mth mpl mga mtr (nI S.2.1) (nI rr) S.2.2.1 mli dz gd S.2.2.2.1 ((S.2.2.2.2 + 1)) fh msh msm mso msp mrf) := by rw [ef82]; exact hm_us
          have h84 : f82 ((r 14)) = some (eJ Γ 64 (fun j => (S.1 j).1)) := by rw [ef82]; exact (hm_un (hm_ne hk0 hm1 (fun q => by cases q))).trans hk0
          have h85 : f82 ((r 15)) = some (eI Γ 64 (fun j => (S.1 j).2.1)) := by rw [ef82]; exact (hm_un (hm_ne hk1 hm1 (fun q => by cases q))).trans hk1
          have h86 : f82 ((r 16)) = some (eI Γ 64 (fun j => (S.1 j).2.2.1)) := by rw [ef82]; exact (hm_un (hm_ne hk2 hm1 (fun q => by cases q))).trans hk2
          have h87 : f82 ((r 17)) = some (eI Γ 64 (fun j => (S.1 j).2.2.2.1)) := by rw [ef82]; exact (hm_un (hm_ne hk3 hm1 (fun q => by cases q))).trans hk3
          have h88 : f82 ((r 18)) = some (eI Γ 64 (fun j => (S.1 j).2.2.2.2.1)) := by rw [ef82]; exact (hm_un (hm_ne hk4 hm1 (fun q => by cases q))).trans hk4
          have h89 : f82 ((r 19)) = some (eI Γ 64 (fun j => (S.1 j).2.2.2.2.2.1)) := by rw [ef82]; exact (hm_un (hm_ne hk5 hm1 (fun q => by cases q))).trans hk5
          have h90 : f82 ((r 20)) = some (eI Γ 64 (fun j => (S.1 j).2.2.2.2.2.2)) := by rw [ef82]; exact (hm_un (hm_ne hk6 hm1 (fun q => by cases q))).trans hk6
          have h91 : f82 ((r 21)) = some (eJ Γ 6 pb) := by rw [ef82]; exact (hm_un (hm_ne hp0 hm1 (fun q => by cases q))).trans hp0
          have h92 : f82 ((r 22)) = some (eI Γ 6 pz) := by rw [ef82]; exact (hm_un (hm_ne hp1 hm1 (fun q => by cases q))).trans hp1
          have h93 : f82 ((r 23)) = some (eI Γ 6 pd) := by rw [ef82]; exact (hm_un (hm_ne hp2 hm1 (fun q => by cases q))).trans hp2
          have h94 : f82 ((r 24)) = some (eI Γ 6 pn) := by rw [ef82]; exact (hm_un (hm_ne hp3 hm1 (fun q => by cases q))).trans hp3
          have h95 : f82 ((r 25)) = some (eI Γ 6 pe) := by rw [ef82]; exact (hm_un (hm_ne hp4 hm1 (fun q => by cases q))).trans hp4
          have h96 : f82 ((r 26)) = some (eI Γ 6 ph) := by rw [ef82]; exact (hm_un (hm_ne hp5 hm1 (fun q => by cases q))).trans hp5
          have h97 : f82 ((r 27)) = some (eI Γ 6 pg) := by rw [ef82]; exact (hm_un (hm_ne hp6 hm1 (fun q => by cases q))).trans hp6
          refine lv_aload_n hx hb dX8_worthOf_206 rfl (lv_at hl 5 rfl) ?_
          refine gf_X8_84 hx hb hts hown hK hH h83 rfl dX8_worthOf_207 ?_
          refine lv_iload hx hb dX8_worthOf_210 (lv_at hl 2 rfl) ?_
          refine lv_iconst (v := 0) hx hb dX8_worthOf_212 (by decide) ?_
          refine hm_iast hx hb hK hO hS hH h94 (vp_in_nI (show L < 6 by omega) (by decide)) dX8_worthOf_213 (fun H locs hH hS => ?_)
          rw [nI_clamp (n := L) (by omega)] at hH
          obtain ⟨f98, ef98⟩ : ∃ zz_, zz_ = hm_up f82 ((r 24)) (eI Γ 6 (upd pn L 0)) := ⟨_, rfl⟩
          have hH : hm_H Γ f98 H := by rw [ef98]; exact hH
          have h99 : f98 ((r 24)) = some (eI Γ 6 (upd pn L 0)) := by rw [ef98]; exact hm_us
          have h100 : f98 ((r 14)) = some (eJ Γ 64 (fun j => (S.1 j).1)) := by rw [ef98]; exact (hm_un (hrI 14 24 (by decide) (by decide) (by decide))).trans h84
          have h101 : f98 ((r 15)) = some (eI Γ 64 (fun j => (S.1 j).2.1)) := by rw [ef98]; exact (hm_un (hrI 15 24 (by decide) (by decide) (by decide))).trans h85
          have h102 : f98 ((r 16)) = some (eI Γ 64 (fun j => (S.1 j).2.2.1)) := by rw [ef98]; exact (hm_un (hrI 16 24 (by decide) (by decide) (by decide))).trans h86
          have h103 : f98 ((r 17)) = some (eI Γ 64 (fun j => (S.1 j).2.2.2.1)) := by rw [ef98]; exact (hm_un (hrI 17 24 (by decide) (by decide) (by decide))).trans h87
          have h104 : f98 ((r 18)) = some (eI Γ 64 (fun j => (S.1 j).2.2.2.2.1)) := by rw [ef98]; exact (hm_un (hrI 18 24 (by decide) (by decide) (by decide))).trans h88
          have h105 : f98 ((r 19)) = some (eI Γ 64 (fun j => (S.1 j).2.2.2.2.2.1)) := by rw [ef98]; exact (hm_un (hrI 19 24 (by decide) (by decide) (by decide))).trans h89
          have h106 : f98 ((r 20)) = some (eI Γ 64 (fun j => (S.1 j).2.2.2.2.2.2)) := by rw [ef98]; exact (hm_un (hrI 20 24 (by decide) (by decide) (by decide))).trans h90
          have h107 : f98 m0 = some (eM r mth mpl mga mtr (nI S.2.1) (nI rr) S.2.2.1 mli dz gd S.2.2.2.1 ((S.2.2.2.2 + 1)) fh msh msm mso msp mrf) := by rw [ef98]; exact (hm_un (hm_ne h83 h94 (fun q => by cases q))).trans h83
          have h108 : f98 ((r 21)) = some (eJ Γ 6 pb) := by rw [ef98]; exact (hm_un (hrI 21 24 (by decide) (by decide) (by decide))).trans h91
          have h109 : f98 ((r 22)) = some (eI Γ 6 pz) := by rw [ef98]; exact (hm_un (hrI 22 24 (by decide) (by decide) (by decide))).trans h92
          have h110 : f98 ((r 23)) = some (eI Γ 6 pd) := by rw [ef98]; exact (hm_un (hrI 23 24 (by decide) (by decide) (by decide))).trans h93
          have h111 : f98 ((r 25)) = some (eI Γ 6 pe) := by rw [ef98]; exact (hm_un (hrI 25 24 (by decide) (by decide) (by decide))).trans h95
          have h112 : f98 ((r 26)) = some (eI Γ 6 ph) := by rw [ef98]; exact (hm_un (hrI 26 24 (by decide) (by decide) (by decide))).trans h96
          have h113 : f98 ((r 27)) = some (eI Γ 6 pg) := by rw [ef98]; exact (hm_un (hrI 27 24 (by decide) (by decide) (by decide))).trans h97
          refine lv_aload_n hx hb dX8_worthOf_214 rfl (lv_at hl 5 rfl) ?_
          refine gf_X8_87 hx hb hts hown hK hH h107 rfl dX8_worthOf_215 ?_
          refine lv_iload hx hb dX8_worthOf_218 (lv_at hl 2 rfl) ?_
          refine lv_iconst (v := 0) hx hb dX8_worthOf_220 (by decide) ?_
          refine hm_iast hx hb hK hO hS hH h111 (vp_in_nI (show L < 6 by omega) (by decide)) dX8_worthOf_221 (fun H locs hH hS => ?_)
          rw [nI_clamp (n := L) (by omega)] at hH
          obtain ⟨f114, ef114⟩ : ∃ zz_, zz_ = hm_up f98 ((r 25)) (eI Γ 6 (upd pe L 0)) := ⟨_, rfl⟩
          have hH : hm_H Γ f114 H := by rw [ef114]; exact hH
          have h115 : f114 ((r 25)) = some (eI Γ 6 (upd pe L 0)) := by rw [ef114]; exact hm_us
          have h116 : f114 ((r 14)) = some (eJ Γ 64 (fun j => (S.1 j).1)) := by rw [ef114]; exact (hm_un (hrI 14 25 (by decide) (by decide) (by decide))).trans h100
          have h117 : f114 ((r 15)) = some (eI Γ 64 (fun j => (S.1 j).2.1)) := by rw [ef114]; exact (hm_un (hrI 15 25 (by decide) (by decide) (by decide))).trans h101
          have h118 : f114 ((r 16)) = some (eI Γ 64 (fun j => (S.1 j).2.2.1)) := by rw [ef114]; exact (hm_un (hrI 16 25 (by decide) (by decide) (by decide))).trans h102
          have h119 : f114 ((r 17)) = some (eI Γ 64 (fun j => (S.1 j).2.2.2.1)) := by rw [ef114]; exact (hm_un (hrI 17 25 (by decide) (by decide) (by decide))).trans h103
          have h120 : f114 ((r 18)) = some (eI Γ 64 (fun j => (S.1 j).2.2.2.2.1)) := by rw [ef114]; exact (hm_un (hrI 18 25 (by decide) (by decide) (by decide))).trans h104
          have h121 : f114 ((r 19)) = some (eI Γ 64 (fun j => (S.1 j).2.2.2.2.2.1)) := by rw [ef114]; exact (hm_un (hrI 19 25 (by decide) (by decide) (by decide))).trans h105
          have h122 : f114 ((r 20)) = some (eI Γ 64 (fun j => (S.1 j).2.2.2.2.2.2)) := by rw [ef114]; exact (hm_un (hrI 20 25 (by decide) (by decide) (by decide))).trans h106
          have h123 : f114 m0 = some (eM r mth mpl mga mtr (nI S.2.1) (nI rr) S.2.2.1 mli dz gd S.2.2.2.1 ((S.2.2.2.2 + 1)) fh msh msm mso msp mrf) := by rw [ef114]; exact (hm_un (hm_ne h107 h111 (fun q => by cases q))).trans h107
          have h124 : f114 ((r 21)) = some (eJ Γ 6 pb) := by rw [ef114]; exact (hm_un (hrI 21 25 (by decide) (by decide) (by decide))).trans h108
          have h125 : f114 ((r 22)) = some (eI Γ 6 pz) := by rw [ef114]; exact (hm_un (hrI 22 25 (by decide) (by decide) (by decide))).trans h109
          have h126 : f114 ((r 23)) = some (eI Γ 6 pd) := by rw [ef114]; exact (hm_un (hrI 23 25 (by decide) (by decide) (by decide))).trans h110
          have h127 : f114 ((r 24)) = some (eI Γ 6 (upd pn L 0)) := by rw [ef114]; exact (hm_un (hrI 24 25 (by decide) (by decide) (by decide))).trans h99
          have h128 : f114 ((r 26)) = some (eI Γ 6 ph) := by rw [ef114]; exact (hm_un (hrI 26 25 (by decide) (by decide) (by decide))).trans h112
          have h129 : f114 ((r 27)) = some (eI Γ 6 pg) := by rw [ef114]; exact (hm_un (hrI 27 25 (by decide) (by decide) (by decide))).trans h113
          refine lv_aload_n hx hb dX8_worthOf_222 rfl (lv_at hl 5 rfl) ?_
          refine gf_X8_90 hx hb hts hown hK hH h123 rfl dX8_worthOf_223 ?_
          refine lv_iload hx hb dX8_worthOf_226 (lv_at hl 2 rfl) ?_
          refine lv_iconst (v := (-1)) hx hb dX8_worthOf_228 (by decide) ?_
          refine hm_iast hx hb hK hO hS hH h128 (vp_in_nI (show L < 6 by omega) (by decide)) dX8_worthOf_229 (fun H locs hH hS => ?_)
          rw [nI_clamp (n := L) (by omega)] at hH
          obtain ⟨f130, ef130⟩ : ∃ zz_, zz_ = hm_up f114 ((r 26)) (eI Γ 6 (upd ph L ((-1)))) := ⟨_, rfl⟩
          have hH : hm_H Γ f130 H := by rw [ef130]; exact hH
          have h131 : f130 ((r 26)) = some (eI Γ 6 (upd ph L ((-1)))) := by rw [ef130]; exact hm_us
          have h132 : f130 ((r 14)) = some (eJ Γ 64 (fun j => (S.1 j).1)) := by rw [ef130]; exact (hm_un (hrI 14 26 (by decide) (by decide) (by decide))).trans h116
          have h133 : f130 ((r 15)) = some (eI Γ 64 (fun j => (S.1 j).2.1)) := by rw [ef130]; exact (hm_un (hrI 15 26 (by decide) (by decide) (by decide))).trans h117
          have h134 : f130 ((r 16)) = some (eI Γ 64 (fun j => (S.1 j).2.2.1)) := by rw [ef130]; exact (hm_un (hrI 16 26 (by decide) (by decide) (by decide))).trans h118
          have h135 : f130 ((r 17)) = some (eI Γ 64 (fun j => (S.1 j).2.2.2.1)) := by rw [ef130]; exact (hm_un (hrI 17 26 (by decide) (by decide) (by decide))).trans h119
          have h136 : f130 ((r 18)) = some (eI Γ 64 (fun j => (S.1 j).2.2.2.2.1)) := by rw [ef130]; exact (hm_un (hrI 18 26 (by decide) (by decide) (by decide))).trans h120
          have h137 : f130 ((r 19)) = some (eI Γ 64 (fun j => (S.1 j).2.2.2.2.2.1)) := by rw [ef130]; exact (hm_un (hrI 19 26 (by decide) (by decide) (by decide))).trans h121
          have h138 : f130 ((r 20)) = some (eI Γ 64 (fun j => (S.1 j).2.2.2.2.2.2)) := by rw [ef130]; exact (hm_un (hrI 20 26 (by decide) (by decide) (by decide))).trans h122
          have h139 : f130 m0 = some (eM r mth mpl mga mtr (nI S.2.1) (nI rr) S.2.2.1 mli dz gd S.2.2.2.1 ((S.2.2.2.2 + 1)) fh msh msm mso msp mrf) := by rw [ef130]; exact (hm_un (hm_ne h123 h128 (fun q => by cases q))).trans h123
          have h140 : f130 ((r 21)) = some (eJ Γ 6 pb) := by rw [ef130]; exact (hm_un (hrI 21 26 (by decide) (by decide) (by decide))).trans h124
          have h141 : f130 ((r 22)) = some (eI Γ 6 pz) := by rw [ef130]; exact (hm_un (hrI 22 26 (by decide) (by decide) (by decide))).trans h125
          have h142 : f130 ((r 23)) = some (eI Γ 6 pd) := by rw [ef130]; exact (hm_un (hrI 23 26 (by decide) (by decide) (by decide))).trans h126
          have h143 : f130 ((r 24)) = some (eI Γ 6 (upd pn L 0)) := by rw [ef130]; exact (hm_un (hrI 24 26 (by decide) (by decide) (by decide))).trans h127
          have h144 : f130 ((r 25)) = some (eI Γ 6 (upd pe L 0)) := by rw [ef130]; exact (hm_un (hrI 25 26 (by decide) (by decide) (by decide))).trans h115
          have h145 : f130 ((r 27)) = some (eI Γ 6 pg) := by rw [ef130]; exact (hm_un (hrI 27 26 (by decide) (by decide) (by decide))).trans h129
          refine lv_iconst (v := (-1)) hx hb dX8_worthOf_230 (by decide) ?_
          refine lv_istore (lv' := [(7, .int ((-1))), (9, .int ((-1))), (8, .int 0), (6, .int (nI L)), (5, .int (bI cb)), (0, .ref m0)]) hx hb dX8_worthOf_231 hl (by decide) rfl (fun ls hl => ?_)
          refine lv_iload hx hb dX8_worthOf_233 (lv_at hl 0 rfl) ?_
          refine lv_iconst (v := (-1)) hx hb dX8_worthOf_235 (by decide) ?_
          refine lv_icmp_eq (tgt := 302) hx hb dX8_worthOf_236 (by decide) (fun _ => ?_) (fun c146 => absurd (by decide) c146)
          have hfrX : hm_fr (wS m0 r) f f130 := by
            rw [ef130, ef114, ef98, ef82]
            exact ((((hfr).up (Or.inl rfl)).up (Or.inr ⟨24, by decide, by decide, rfl⟩)).up (Or.inr ⟨25, by decide, by decide, rfl⟩)).up (Or.inr ⟨26, by decide, by decide, rfl⟩)
          refine dir (fun _ => hno) 4 0 (missM S) _ _ _ _ pb pz pd (upd pn L 0) (upd pe L 0) (upd ph L ((-1))) pg (by omega) rfl ⟨h139, ⟨h132, h133, h134, h135, h136, h137, h138⟩, ⟨h140, h141, h142, h143, h144, h131, h145⟩⟩ hpb hpz hpd upd_s upd_s upd_s (fun j hj => ?_) hfrX H locs hH hS ls (lv_sub hl [3, 0, 2, 4, 5] rfl)
          exact ⟨rfl, rfl, rfl, upd_n (by omega), upd_n (by omega), upd_n (by omega), rfl⟩
        · refine W.eq (g2 := F0 m 84 ls [.int (nI i)]) rfl ?_
          have hi64 : i < 64 := by have := hmo.1; omega
          have hev := mok_for (hmo.2 i hi) hpi hd4 hz hw4
          have hT : trM cb rr (d + 1) t z S = useM i S := by rw [hcb]; exact trM_hit hi hpi hj
          refine lv_goto (tgt := 88) hx hb dX8_worthOf_84 (by decide) ?_
          refine lv_istore (lv' := [(9, .int (nI i)), (8, .int 0), (6, .int (nI L)), (7, .int fo), (5, .int (bI cb)), (0, .ref m0)]) hx hb dX8_worthOf_88 hl (by decide) rfl (fun ls hl => ?_)
          refine lv_aload_n hx hb dX8_worthOf_90 rfl (lv_at hl 5 rfl) ?_
          refine gf_X8_81 hx hb hts hown hK hH hm1 rfl dX8_worthOf_91 ?_
          refine lv_iload hx hb dX8_worthOf_94 (lv_at hl 2 rfl) ?_
          refine hm_iald hx hb hK hH hp2 (vp_in_nI (show L < 6 by omega) (by decide)) dX8_worthOf_96 ?_
          refine lv_topi (fun v147 ev147 => ?_)
          replace ev147 : v147 = nI (d + 1) := ev147.trans (by show pd (nI L).toNatClampNeg = _; rw [nI_clamp (n := L) (by omega)]; exact hpd)
          subst ev147
          refine lv_if_eq (tgt := 106) hx hb dX8_worthOf_97 (by decide) (fun c148 => absurd c148 ((nI_ne0 (n := d + 1) (by omega) (by omega)))) (fun _ => ?_)
          refine lv_iload hx hb dX8_worthOf_100 (lv_at hl 0 rfl) ?_
          refine lv_iconst (v := (-1)) hx hb dX8_worthOf_102 (by decide) ?_
          refine lv_icmp_eq (tgt := 196) hx hb dX8_worthOf_103 (by decide) (fun c149 => absurd c149 ((fun q => absurd (show (nI i) < 0 by rw [q]; decide) (nI_pos (by omega))))) (fun _ => ?_)
          refine lv_iload hx hb dX8_worthOf_106 (lv_at hl 0 rfl) ?_
          refine lv_iconst (v := (-1)) hx hb dX8_worthOf_108 (by decide) ?_
          refine lv_icmp_ne (tgt := 116) hx hb dX8_worthOf_109 (by decide) (fun _ => ?_) (fun c150 => absurd c150 ((fun q => absurd (show (nI i) < 0 by rw [q]; decide) (nI_pos (by omega)))))
          refine lv_aload_n hx hb dX8_worthOf_116 rfl (lv_at hl 5 rfl) ?_
          refine gf_X8_63 hx hb hts hown hK hH hm1 rfl dX8_worthOf_117 ?_
          refine lv_iload hx hb dX8_worthOf_120 (lv_at hl 0 rfl) ?_
          refine hm_iald hx hb hK hH hk3 (vp_in_nI hi64 (by decide)) dX8_worthOf_122 ?_
          refine lv_topi (fun v151 ev151 => ?_)
          replace ev151 : v151 = (S.1 i).2.2.2.1 := ev151.trans (by show (S.1 (nI i).toNatClampNeg).2.2.2.1 = _; rw [nI_clamp (by omega)])
          subst ev151
          refine lv_istore (lv' := [(7, .int ((S.1 i).2.2.2.1)), (9, .int (nI i)), (8, .int 0), (6, .int (nI L)), (5, .int (bI cb)), (0, .ref m0)]) hx hb dX8_worthOf_123 hl (by decide) rfl (fun ls hl => ?_)
          refine lv_aload_n hx hb dX8_worthOf_125 rfl (lv_at hl 5 rfl) ?_
          refine lv_iload hx hb dX8_worthOf_126 (lv_at hl 1 rfl) ?_
          refine lv_iconst (v := (-1)) hx hb dX8_worthOf_128 (by decide) ?_
          refine lv_icmp_ne (tgt := 136) hx hb dX8_worthOf_129 (by decide) (fun _ => ?_) (fun c152 => absurd c152 ((fun q => absurd (show (nI i) < 0 by rw [q]; decide) (nI_pos (by omega)))))
          refine lv_aload_n hx hb dX8_worthOf_136 rfl (lv_at hl 5 rfl) ?_
          refine gf_X8_66 hx hb hts hown hK hH hm1 rfl dX8_worthOf_137 ?_
          refine lv_iload hx hb dX8_worthOf_140 (lv_at hl 1 rfl) ?_
          refine hm_iald hx hb hK hH hk4 (vp_in_nI hi64 (by decide)) dX8_worthOf_142 ?_
          refine lv_topi (fun v153 ev153 => ?_)
          replace ev153 : v153 = (S.1 i).2.2.2.2.1 := ev153.trans (by show (S.1 (nI i).toNatClampNeg).2.2.2.2.1 = _; rw [nI_clamp (by omega)])
          subst ev153
          refine pf_X8_187 hx hb hts hown hK hO hS hH hm1 rfl (Nat.le_of_ble_eq_true rfl) rfl dX8_worthOf_143 (fun H locs hH hS => ?_)
          obtain ⟨f154, ef154⟩ : ∃ zz_, zz_ = hm_up f1 m0 (eM r mth mpl mga mtr (nI S.2.1) (nI rr) S.2.2.1 mli dz gd S.2.2.2.1 S.2.2.2.2 ((S.1 i).2.2.2.2.1) msh msm mso msp mrf) := ⟨_, rfl⟩
          have hH : hm_H Γ f154 H := by rw [ef154]; exact hH
          have h155 : f154 m0 = some (eM r mth mpl mga mtr (nI S.2.1) (nI rr) S.2.2.1 mli dz gd S.2.2.2.1 S.2.2.2.2 ((S.1 i).2.2.2.2.1) msh msm mso msp mrf) := by rw [ef154]; exact hm_us
          have h156 : f154 ((r 14)) = some (eJ Γ 64 (fun j => (S.1 j).1)) := by rw [ef154]; exact (hm_un (hm_ne hk0 hm1 (fun q => by cases q))).trans hk0
          have h157 : f154 ((r 15)) = some (eI Γ 64 (fun j => (S.1 j).2.1)) := by rw [ef154]; exact (hm_un (hm_ne hk1 hm1 (fun q => by cases q))).trans hk1
          have h158 : f154 ((r 16)) = some (eI Γ 64 (fun j => (S.1 j).2.2.1)) := by rw [ef154]; exact (hm_un (hm_ne hk2 hm1 (fun q => by cases q))).trans hk2
          have h159 : f154 ((r 17)) = some (eI Γ 64 (fun j => (S.1 j).2.2.2.1)) := by rw [ef154]; exact (hm_un (hm_ne hk3 hm1 (fun q => by cases q))).trans hk3
          have h160 : f154 ((r 18)) = some (eI Γ 64 (fun j => (S.1 j).2.2.2.2.1)) := by rw [ef154]; exact (hm_un (hm_ne hk4 hm1 (fun q => by cases q))).trans hk4
          have h161 : f154 ((r 19)) = some (eI Γ 64 (fun j => (S.1 j).2.2.2.2.2.1)) := by rw [ef154]; exact (hm_un (hm_ne hk5 hm1 (fun q => by cases q))).trans hk5
          have h162 : f154 ((r 20)) = some (eI Γ 64 (fun j => (S.1 j).2.2.2.2.2.2)) := by rw [ef154]; exact (hm_un (hm_ne hk6 hm1 (fun q => by cases q))).trans hk6
          have h163 : f154 ((r 21)) = some (eJ Γ 6 pb) := by rw [ef154]; exact (hm_un (hm_ne hp0 hm1 (fun q => by cases q))).trans hp0
          have h164 : f154 ((r 22)) = some (eI Γ 6 pz) := by rw [ef154]; exact (hm_un (hm_ne hp1 hm1 (fun q => by cases q))).trans hp1
          have h165 : f154 ((r 23)) = some (eI Γ 6 pd) := by rw [ef154]; exact (hm_un (hm_ne hp2 hm1 (fun q => by cases q))).trans hp2
          have h166 : f154 ((r 24)) = some (eI Γ 6 pn) := by rw [ef154]; exact (hm_un (hm_ne hp3 hm1 (fun q => by cases q))).trans hp3
          have h167 : f154 ((r 25)) = some (eI Γ 6 pe) := by rw [ef154]; exact (hm_un (hm_ne hp4 hm1 (fun q => by cases q))).trans hp4
          have h168 : f154 ((r 26)) = some (eI Γ 6 ph) := by rw [ef154]; exact (hm_un (hm_ne hp5 hm1 (fun q => by cases q))).trans hp5
          have h169 : f154 ((r 27)) = some (eI Γ 6 pg) := by rw [ef154]; exact (hm_un (hm_ne hp6 hm1 (fun q => by cases q))).trans hp6
          refine lv_aload_n hx hb dX8_worthOf_146 rfl (lv_at hl 5 rfl) ?_
          refine lv_dup hx hb dX8_worthOf_147 rfl ?_
          refine gf_X8_190 hx hb hts hown hK hH h155 rfl dX8_worthOf_148 ?_
          refine lv_iload hx hb dX8_worthOf_151 (lv_at hl 1 rfl) ?_
          refine lv_iconst (v := (-1)) hx hb dX8_worthOf_153 (by decide) ?_
          refine lv_icmp_ne (tgt := 161) hx hb dX8_worthOf_154 (by decide) (fun _ => ?_) (fun c170 => absurd c170 ((fun q => absurd (show (nI i) < 0 by rw [q]; decide) (nI_pos (by omega)))))
          refine lv_iconst (v := 1) hx hb dX8_worthOf_161 (by decide) ?_
          refine lv_iadd hx hb dX8_worthOf_162 ?_
          refine lv_topi (fun v171 ev171 => ?_)
          replace ev171 : v171 = (S.2.2.2.1 + 1) := ev171.trans (rfl)
          subst ev171
          refine pf_X8_190 hx hb hts hown hK hO hS hH h155 rfl (Nat.le_of_ble_eq_true rfl) rfl dX8_worthOf_163 (fun H locs hH hS => ?_)
          obtain ⟨f172, ef172⟩ : ∃ zz_, zz_ = hm_up f154 m0 (eM r mth mpl mga mtr (nI S.2.1) (nI rr) S.2.2.1 mli dz gd ((S.2.2.2.1 + 1)) S.2.2.2.2 ((S.1 i).2.2.2.2.1) msh msm mso msp mrf) := ⟨_, rfl⟩
          have hH : hm_H Γ f172 H := by rw [ef172]; exact hH
          have h173 : f172 m0 = some (eM r mth mpl mga mtr (nI S.2.1) (nI rr) S.2.2.1 mli dz gd ((S.2.2.2.1 + 1)) S.2.2.2.2 ((S.1 i).2.2.2.2.1) msh msm mso msp mrf) := by rw [ef172]; exact hm_us
          have h174 : f172 ((r 14)) = some (eJ Γ 64 (fun j => (S.1 j).1)) := by rw [ef172]; exact (hm_un (hm_ne h156 h155 (fun q => by cases q))).trans h156
          have h175 : f172 ((r 15)) = some (eI Γ 64 (fun j => (S.1 j).2.1)) := by rw [ef172]; exact (hm_un (hm_ne h157 h155 (fun q => by cases q))).trans h157
          have h176 : f172 ((r 16)) = some (eI Γ 64 (fun j => (S.1 j).2.2.1)) := by rw [ef172]; exact (hm_un (hm_ne h158 h155 (fun q => by cases q))).trans h158
          have h177 : f172 ((r 17)) = some (eI Γ 64 (fun j => (S.1 j).2.2.2.1)) := by rw [ef172]; exact (hm_un (hm_ne h159 h155 (fun q => by cases q))).trans h159
          have h178 : f172 ((r 18)) = some (eI Γ 64 (fun j => (S.1 j).2.2.2.2.1)) := by rw [ef172]; exact (hm_un (hm_ne h160 h155 (fun q => by cases q))).trans h160
          have h179 : f172 ((r 19)) = some (eI Γ 64 (fun j => (S.1 j).2.2.2.2.2.1)) := by rw [ef172]; exact (hm_un (hm_ne h161 h155 (fun q => by cases q))).trans h161
          have h180 : f172 ((r 20)) = some (eI Γ 64 (fun j => (S.1 j).2.2.2.2.2.2)) := by rw [ef172]; exact (hm_un (hm_ne h162 h155 (fun q => by cases q))).trans h162
          have h181 : f172 ((r 21)) = some (eJ Γ 6 pb) := by rw [ef172]; exact (hm_un (hm_ne h163 h155 (fun q => by cases q))).trans h163
          have h182 : f172 ((r 22)) = some (eI Γ 6 pz) := by rw [ef172]; exact (hm_un (hm_ne h164 h155 (fun q => by cases q))).trans h164
          have h183 : f172 ((r 23)) = some (eI Γ 6 pd) := by rw [ef172]; exact (hm_un (hm_ne h165 h155 (fun q => by cases q))).trans h165
          have h184 : f172 ((r 24)) = some (eI Γ 6 pn) := by rw [ef172]; exact (hm_un (hm_ne h166 h155 (fun q => by cases q))).trans h166
          have h185 : f172 ((r 25)) = some (eI Γ 6 pe) := by rw [ef172]; exact (hm_un (hm_ne h167 h155 (fun q => by cases q))).trans h167
          have h186 : f172 ((r 26)) = some (eI Γ 6 ph) := by rw [ef172]; exact (hm_un (hm_ne h168 h155 (fun q => by cases q))).trans h168
          have h187 : f172 ((r 27)) = some (eI Γ 6 pg) := by rw [ef172]; exact (hm_un (hm_ne h169 h155 (fun q => by cases q))).trans h169
          refine lv_iload hx hb dX8_worthOf_166 (lv_at hl 1 rfl) ?_
          refine lv_iconst (v := (-1)) hx hb dX8_worthOf_168 (by decide) ?_
          refine lv_icmp_eq (tgt := 190) hx hb dX8_worthOf_169 (by decide) (fun c188 => absurd c188 ((fun q => absurd (show (nI i) < 0 by rw [q]; decide) (nI_pos (by omega))))) (fun _ => ?_)
          refine lv_aload_n hx hb dX8_worthOf_172 rfl (lv_at hl 5 rfl) ?_
          refine gf_X8_69 hx hb hts hown hK hH h173 rfl dX8_worthOf_173 ?_
          refine lv_iload hx hb dX8_worthOf_176 (lv_at hl 1 rfl) ?_
          refine lv_aload_n hx hb dX8_worthOf_178 rfl (lv_at hl 5 rfl) ?_
          refine lv_dup hx hb dX8_worthOf_179 rfl ?_
          refine gf_X8_180 hx hb hts hown hK hH h173 rfl dX8_worthOf_180 ?_
          refine lv_iconst (v := 1) hx hb dX8_worthOf_183 (by decide) ?_
          refine lv_iadd hx hb dX8_worthOf_184 ?_
          refine lv_topi (fun v189 ev189 => ?_)
          replace ev189 : v189 = (S.2.2.1 + 1) := ev189.trans (rfl)
          subst ev189
          refine lv_dup_x1 hx hb dX8_worthOf_185 rfl rfl ?_
          refine pf_X8_180 hx hb hts hown hK hO hS hH h173 rfl (Nat.le_of_ble_eq_true rfl) rfl dX8_worthOf_186 (fun H locs hH hS => ?_)
          obtain ⟨f190, ef190⟩ : ∃ zz_, zz_ = hm_up f172 m0 (eM r mth mpl mga mtr (nI S.2.1) (nI rr) ((S.2.2.1 + 1)) mli dz gd ((S.2.2.2.1 + 1)) S.2.2.2.2 ((S.1 i).2.2.2.2.1) msh msm mso msp mrf) := ⟨_, rfl⟩
          have hH : hm_H Γ f190 H := by rw [ef190]; exact hH
          have h191 : f190 m0 = some (eM r mth mpl mga mtr (nI S.2.1) (nI rr) ((S.2.2.1 + 1)) mli dz gd ((S.2.2.2.1 + 1)) S.2.2.2.2 ((S.1 i).2.2.2.2.1) msh msm mso msp mrf) := by rw [ef190]; exact hm_us
          have h192 : f190 ((r 14)) = some (eJ Γ 64 (fun j => (S.1 j).1)) := by rw [ef190]; exact (hm_un (hm_ne h174 h173 (fun q => by cases q))).trans h174
          have h193 : f190 ((r 15)) = some (eI Γ 64 (fun j => (S.1 j).2.1)) := by rw [ef190]; exact (hm_un (hm_ne h175 h173 (fun q => by cases q))).trans h175
          have h194 : f190 ((r 16)) = some (eI Γ 64 (fun j => (S.1 j).2.2.1)) := by rw [ef190]; exact (hm_un (hm_ne h176 h173 (fun q => by cases q))).trans h176
          have h195 : f190 ((r 17)) = some (eI Γ 64 (fun j => (S.1 j).2.2.2.1)) := by rw [ef190]; exact (hm_un (hm_ne h177 h173 (fun q => by cases q))).trans h177
          have h196 : f190 ((r 18)) = some (eI Γ 64 (fun j => (S.1 j).2.2.2.2.1)) := by rw [ef190]; exact (hm_un (hm_ne h178 h173 (fun q => by cases q))).trans h178
          have h197 : f190 ((r 19)) = some (eI Γ 64 (fun j => (S.1 j).2.2.2.2.2.1)) := by rw [ef190]; exact (hm_un (hm_ne h179 h173 (fun q => by cases q))).trans h179
          have h198 : f190 ((r 20)) = some (eI Γ 64 (fun j => (S.1 j).2.2.2.2.2.2)) := by rw [ef190]; exact (hm_un (hm_ne h180 h173 (fun q => by cases q))).trans h180
          have h199 : f190 ((r 21)) = some (eJ Γ 6 pb) := by rw [ef190]; exact (hm_un (hm_ne h181 h173 (fun q => by cases q))).trans h181
          have h200 : f190 ((r 22)) = some (eI Γ 6 pz) := by rw [ef190]; exact (hm_un (hm_ne h182 h173 (fun q => by cases q))).trans h182
          have h201 : f190 ((r 23)) = some (eI Γ 6 pd) := by rw [ef190]; exact (hm_un (hm_ne h183 h173 (fun q => by cases q))).trans h183
          have h202 : f190 ((r 24)) = some (eI Γ 6 pn) := by rw [ef190]; exact (hm_un (hm_ne h184 h173 (fun q => by cases q))).trans h184
          have h203 : f190 ((r 25)) = some (eI Γ 6 pe) := by rw [ef190]; exact (hm_un (hm_ne h185 h173 (fun q => by cases q))).trans h185
          have h204 : f190 ((r 26)) = some (eI Γ 6 ph) := by rw [ef190]; exact (hm_un (hm_ne h186 h173 (fun q => by cases q))).trans h186
          have h205 : f190 ((r 27)) = some (eI Γ 6 pg) := by rw [ef190]; exact (hm_un (hm_ne h187 h173 (fun q => by cases q))).trans h187
          refine hm_iast hx hb hK hO hS hH h197 (vp_in_nI hi64 (by decide)) dX8_worthOf_189 (fun H locs hH hS => ?_)
          rw [nI_clamp (n := i) (by omega)] at hH
          obtain ⟨f206, ef206⟩ : ∃ zz_, zz_ = hm_up f190 ((r 19)) (eI Γ 64 (upd (fun j => (S.1 j).2.2.2.2.2.1) i ((S.2.2.1 + 1)))) := ⟨_, rfl⟩
          have hH : hm_H Γ f206 H := by rw [ef206]; exact hH
          have h207 : f206 ((r 19)) = some (eI Γ 64 (upd (fun j => (S.1 j).2.2.2.2.2.1) i ((S.2.2.1 + 1)))) := by rw [ef206]; exact hm_us
          have h208 : f206 ((r 14)) = some (eJ Γ 64 (fun j => (S.1 j).1)) := by rw [ef206]; exact (hm_un (hrI 14 19 (by decide) (by decide) (by decide))).trans h192
          have h209 : f206 ((r 15)) = some (eI Γ 64 (fun j => (S.1 j).2.1)) := by rw [ef206]; exact (hm_un (hrI 15 19 (by decide) (by decide) (by decide))).trans h193
          have h210 : f206 ((r 16)) = some (eI Γ 64 (fun j => (S.1 j).2.2.1)) := by rw [ef206]; exact (hm_un (hrI 16 19 (by decide) (by decide) (by decide))).trans h194
          have h211 : f206 ((r 17)) = some (eI Γ 64 (fun j => (S.1 j).2.2.2.1)) := by rw [ef206]; exact (hm_un (hrI 17 19 (by decide) (by decide) (by decide))).trans h195
          have h212 : f206 ((r 18)) = some (eI Γ 64 (fun j => (S.1 j).2.2.2.2.1)) := by rw [ef206]; exact (hm_un (hrI 18 19 (by decide) (by decide) (by decide))).trans h196
          have h213 : f206 ((r 20)) = some (eI Γ 64 (fun j => (S.1 j).2.2.2.2.2.2)) := by rw [ef206]; exact (hm_un (hrI 20 19 (by decide) (by decide) (by decide))).trans h198
          have h214 : f206 m0 = some (eM r mth mpl mga mtr (nI S.2.1) (nI rr) ((S.2.2.1 + 1)) mli dz gd ((S.2.2.2.1 + 1)) S.2.2.2.2 ((S.1 i).2.2.2.2.1) msh msm mso msp mrf) := by rw [ef206]; exact (hm_un (hm_ne h191 h197 (fun q => by cases q))).trans h191
          have h215 : f206 ((r 21)) = some (eJ Γ 6 pb) := by rw [ef206]; exact (hm_un (hrI 21 19 (by decide) (by decide) (by decide))).trans h199
          have h216 : f206 ((r 22)) = some (eI Γ 6 pz) := by rw [ef206]; exact (hm_un (hrI 22 19 (by decide) (by decide) (by decide))).trans h200
          have h217 : f206 ((r 23)) = some (eI Γ 6 pd) := by rw [ef206]; exact (hm_un (hrI 23 19 (by decide) (by decide) (by decide))).trans h201
          have h218 : f206 ((r 24)) = some (eI Γ 6 pn) := by rw [ef206]; exact (hm_un (hrI 24 19 (by decide) (by decide) (by decide))).trans h202
          have h219 : f206 ((r 25)) = some (eI Γ 6 pe) := by rw [ef206]; exact (hm_un (hrI 25 19 (by decide) (by decide) (by decide))).trans h203
          have h220 : f206 ((r 26)) = some (eI Γ 6 ph) := by rw [ef206]; exact (hm_un (hrI 26 19 (by decide) (by decide) (by decide))).trans h204
          have h221 : f206 ((r 27)) = some (eI Γ 6 pg) := by rw [ef206]; exact (hm_un (hrI 27 19 (by decide) (by decide) (by decide))).trans h205
          refine lv_iinc (v := (nI L + (-1))) (lv' := [(6, .int ((nI L + (-1)))), (7, .int ((S.1 i).2.2.2.1)), (9, .int (nI i)), (8, .int 0), (5, .int (bI cb)), (0, .ref m0)]) hx hb dX8_worthOf_190 hl (k := 3) rfl (rfl) (by decide) rfl (fun ls hl => ?_)
          refine lv_goto (tgt := 31) hx hb dX8_worthOf_193 (by decide) ?_
          have hfrX : hm_fr (wS m0 r) f f206 := by
            rw [ef206, ef190, ef172, ef154]
            exact ((((hfr).up (Or.inl rfl)).up (Or.inl rfl)).up (Or.inl rfl)).up (Or.inr ⟨19, by decide, by decide, rfl⟩)
          rw [hT, ← hev.1, ← hev.2] at K
          exact K _ _ _ pb pz pd pn pe ph pg ⟨h214, ⟨(h208.trans (congrArg some (congrArg (eJ Γ 64) (kset_p (fun x : EV => x.1) (K := S.1) (i := i) (y := (setU (S.1 i) (S.2.2.1 + 1))) rfl)))), (h209.trans (congrArg some (congrArg (eI Γ 64) (kset_p (fun x : EV => x.2.1) (K := S.1) (i := i) (y := (setU (S.1 i) (S.2.2.1 + 1))) rfl)))), (h210.trans (congrArg some (congrArg (eI Γ 64) (kset_p (fun x : EV => x.2.2.1) (K := S.1) (i := i) (y := (setU (S.1 i) (S.2.2.1 + 1))) rfl)))), (h211.trans (congrArg some (congrArg (eI Γ 64) (kset_p (fun x : EV => x.2.2.2.1) (K := S.1) (i := i) (y := (setU (S.1 i) (S.2.2.1 + 1))) rfl)))), (h212.trans (congrArg some (congrArg (eI Γ 64) (kset_p (fun x : EV => x.2.2.2.2.1) (K := S.1) (i := i) (y := (setU (S.1 i) (S.2.2.1 + 1))) rfl)))), (h207.trans (congrArg some (congrArg (eI Γ 64) (upd_fun (fun x : EV => x.2.2.2.2.2.1) S.1 i (setU (S.1 i) (S.2.2.1 + 1)))))), (h213.trans (congrArg some (congrArg (eI Γ 64) (kset_p (fun x : EV => x.2.2.2.2.2.2) (K := S.1) (i := i) (y := (setU (S.1 i) (S.2.2.1 + 1))) rfl))))⟩, ⟨h215, h216, h217, h218, h219, h220, h221⟩⟩ (fun j hj => ⟨rfl, rfl, rfl, rfl, rfl, rfl, rfl⟩) hfrX H locs hH hS ls (lv_sub hl [0, 1, 3, 4, 5] rfl)
  obtain ⟨hm1, hKA1, hPA1⟩ := id hHd0
  obtain ⟨hk0, hk1, hk2, hk3, hk4, hk5, hk6⟩ := id hKA1
  obtain ⟨hp0, hp1, hp2, hp3, hp4, hp5, hp6⟩ := id hPA1
  refine lv_iconst (v := 0) hx hb dX8_worthOf_0 (by decide) ?_
  refine lv_istore (lv' := [(6, .int 0), (0, .ref m0), (1, .long (b4 t0)), (3, .int (nI z0)), (4, .int (nI d0)), (5, .int (bI cb))]) hx hb dX8_worthOf_1 hl (by decide) rfl (fun ls hl => ?_)
  refine lv_iconst (v := (-1)) hx hb dX8_worthOf_3 (by decide) ?_
  refine lv_istore (lv' := [(7, .int ((-1))), (6, .int 0), (0, .ref m0), (1, .long (b4 t0)), (3, .int (nI z0)), (4, .int (nI d0)), (5, .int (bI cb))]) hx hb dX8_worthOf_4 hl (by decide) rfl (fun ls hl => ?_)
  refine lv_iconst (v := 1) hx hb dX8_worthOf_6 (by decide) ?_
  refine lv_istore (lv' := [(8, .int 1), (7, .int ((-1))), (6, .int 0), (0, .ref m0), (1, .long (b4 t0)), (3, .int (nI z0)), (4, .int (nI d0)), (5, .int (bI cb))]) hx hb dX8_worthOf_7 hl (by decide) rfl (fun ls hl => ?_)
  refine lv_aload_n hx hb dX8_worthOf_9 rfl (lv_at hl 3 rfl) ?_
  refine gf_X8_75 hx hb hts hown hK hH hm1 rfl dX8_worthOf_10 ?_
  refine lv_iconst (v := 0) hx hb dX8_worthOf_13 (by decide) ?_
  refine lv_lload_n hx hb dX8_worthOf_14 rfl (lv_at hl 4 rfl) ?_
  refine hm_last hx hb hK hO hS hH hp0 (by unfold vp_in; decide) dX8_worthOf_15 (fun H locs hH hS => ?_)
  rw [show (0 : Int32).toNatClampNeg = 0 from rfl] at hH
  obtain ⟨f1, ef1⟩ : ∃ zz_, zz_ = hm_up f ((r 21)) (eJ Γ 6 (vp_updL pb0 0 (b4 t0))) := ⟨_, rfl⟩
  have hH : hm_H Γ f1 H := by rw [ef1]; exact hH
  have h2 : f1 ((r 21)) = some (eJ Γ 6 (vp_updL pb0 0 (b4 t0))) := by rw [ef1]; exact hm_us
  have h3 : f1 ((r 14)) = some (eJ Γ 64 (fun j => (S0.1 j).1)) := by rw [ef1]; exact (hm_un (hrI 14 21 (by decide) (by decide) (by decide))).trans hk0
  have h4 : f1 ((r 15)) = some (eI Γ 64 (fun j => (S0.1 j).2.1)) := by rw [ef1]; exact (hm_un (hrI 15 21 (by decide) (by decide) (by decide))).trans hk1
  have h5 : f1 ((r 16)) = some (eI Γ 64 (fun j => (S0.1 j).2.2.1)) := by rw [ef1]; exact (hm_un (hrI 16 21 (by decide) (by decide) (by decide))).trans hk2
  have h6 : f1 ((r 17)) = some (eI Γ 64 (fun j => (S0.1 j).2.2.2.1)) := by rw [ef1]; exact (hm_un (hrI 17 21 (by decide) (by decide) (by decide))).trans hk3
  have h7 : f1 ((r 18)) = some (eI Γ 64 (fun j => (S0.1 j).2.2.2.2.1)) := by rw [ef1]; exact (hm_un (hrI 18 21 (by decide) (by decide) (by decide))).trans hk4
  have h8 : f1 ((r 19)) = some (eI Γ 64 (fun j => (S0.1 j).2.2.2.2.2.1)) := by rw [ef1]; exact (hm_un (hrI 19 21 (by decide) (by decide) (by decide))).trans hk5
  have h9 : f1 ((r 20)) = some (eI Γ 64 (fun j => (S0.1 j).2.2.2.2.2.2)) := by rw [ef1]; exact (hm_un (hrI 20 21 (by decide) (by decide) (by decide))).trans hk6
  have h10 : f1 m0 = some (eM r mth mpl mga mtr (nI S0.2.1) (nI rr) S0.2.2.1 mli dz0 gd0 S0.2.2.2.1 S0.2.2.2.2 fh0 msh msm mso msp mrf) := by rw [ef1]; exact (hm_un (hm_ne hm1 hp0 (fun q => by cases q))).trans hm1
  have h11 : f1 ((r 22)) = some (eI Γ 6 pz0) := by rw [ef1]; exact (hm_un (hrI 22 21 (by decide) (by decide) (by decide))).trans hp1
  have h12 : f1 ((r 23)) = some (eI Γ 6 pd0) := by rw [ef1]; exact (hm_un (hrI 23 21 (by decide) (by decide) (by decide))).trans hp2
  have h13 : f1 ((r 24)) = some (eI Γ 6 pn0) := by rw [ef1]; exact (hm_un (hrI 24 21 (by decide) (by decide) (by decide))).trans hp3
  have h14 : f1 ((r 25)) = some (eI Γ 6 pe0) := by rw [ef1]; exact (hm_un (hrI 25 21 (by decide) (by decide) (by decide))).trans hp4
  have h15 : f1 ((r 26)) = some (eI Γ 6 ph0) := by rw [ef1]; exact (hm_un (hrI 26 21 (by decide) (by decide) (by decide))).trans hp5
  have h16 : f1 ((r 27)) = some (eI Γ 6 pg0) := by rw [ef1]; exact (hm_un (hrI 27 21 (by decide) (by decide) (by decide))).trans hp6
  refine lv_aload_n hx hb dX8_worthOf_16 rfl (lv_at hl 3 rfl) ?_
  refine gf_X8_78 hx hb hts hown hK hH h10 rfl dX8_worthOf_17 ?_
  refine lv_iconst (v := 0) hx hb dX8_worthOf_20 (by decide) ?_
  refine lv_iload_n hx hb dX8_worthOf_21 rfl (lv_at hl 5 rfl) ?_
  refine hm_iast hx hb hK hO hS hH h11 (by unfold vp_in; decide) dX8_worthOf_22 (fun H locs hH hS => ?_)
  rw [show (0 : Int32).toNatClampNeg = 0 from rfl] at hH
  obtain ⟨f17, ef17⟩ : ∃ zz_, zz_ = hm_up f1 ((r 22)) (eI Γ 6 (upd pz0 0 (nI z0))) := ⟨_, rfl⟩
  have hH : hm_H Γ f17 H := by rw [ef17]; exact hH
  have h18 : f17 ((r 22)) = some (eI Γ 6 (upd pz0 0 (nI z0))) := by rw [ef17]; exact hm_us
  have h19 : f17 ((r 14)) = some (eJ Γ 64 (fun j => (S0.1 j).1)) := by rw [ef17]; exact (hm_un (hrI 14 22 (by decide) (by decide) (by decide))).trans h3
  have h20 : f17 ((r 15)) = some (eI Γ 64 (fun j => (S0.1 j).2.1)) := by rw [ef17]; exact (hm_un (hrI 15 22 (by decide) (by decide) (by decide))).trans h4
  have h21 : f17 ((r 16)) = some (eI Γ 64 (fun j => (S0.1 j).2.2.1)) := by rw [ef17]; exact (hm_un (hrI 16 22 (by decide) (by decide) (by decide))).trans h5
  have h22 : f17 ((r 17)) = some (eI Γ 64 (fun j => (S0.1 j).2.2.2.1)) := by rw [ef17]; exact (hm_un (hrI 17 22 (by decide) (by decide) (by decide))).trans h6
  have h23 : f17 ((r 18)) = some (eI Γ 64 (fun j => (S0.1 j).2.2.2.2.1)) := by rw [ef17]; exact (hm_un (hrI 18 22 (by decide) (by decide) (by decide))).trans h7
  have h24 : f17 ((r 19)) = some (eI Γ 64 (fun j => (S0.1 j).2.2.2.2.2.1)) := by rw [ef17]; exact (hm_un (hrI 19 22 (by decide) (by decide) (by decide))).trans h8
  have h25 : f17 ((r 20)) = some (eI Γ 64 (fun j => (S0.1 j).2.2.2.2.2.2)) := by rw [ef17]; exact (hm_un (hrI 20 22 (by decide) (by decide) (by decide))).trans h9
  have h26 : f17 m0 = some (eM r mth mpl mga mtr (nI S0.2.1) (nI rr) S0.2.2.1 mli dz0 gd0 S0.2.2.2.1 S0.2.2.2.2 fh0 msh msm mso msp mrf) := by rw [ef17]; exact (hm_un (hm_ne h10 h11 (fun q => by cases q))).trans h10
  have h27 : f17 ((r 21)) = some (eJ Γ 6 (vp_updL pb0 0 (b4 t0))) := by rw [ef17]; exact (hm_un (hrI 21 22 (by decide) (by decide) (by decide))).trans h2
  have h28 : f17 ((r 23)) = some (eI Γ 6 pd0) := by rw [ef17]; exact (hm_un (hrI 23 22 (by decide) (by decide) (by decide))).trans h12
  have h29 : f17 ((r 24)) = some (eI Γ 6 pn0) := by rw [ef17]; exact (hm_un (hrI 24 22 (by decide) (by decide) (by decide))).trans h13
  have h30 : f17 ((r 25)) = some (eI Γ 6 pe0) := by rw [ef17]; exact (hm_un (hrI 25 22 (by decide) (by decide) (by decide))).trans h14
  have h31 : f17 ((r 26)) = some (eI Γ 6 ph0) := by rw [ef17]; exact (hm_un (hrI 26 22 (by decide) (by decide) (by decide))).trans h15
  have h32 : f17 ((r 27)) = some (eI Γ 6 pg0) := by rw [ef17]; exact (hm_un (hrI 27 22 (by decide) (by decide) (by decide))).trans h16
  refine lv_aload_n hx hb dX8_worthOf_23 rfl (lv_at hl 3 rfl) ?_
  refine gf_X8_81 hx hb hts hown hK hH h26 rfl dX8_worthOf_24 ?_
  refine lv_iconst (v := 0) hx hb dX8_worthOf_27 (by decide) ?_
  refine lv_iload hx hb dX8_worthOf_28 (lv_at hl 6 rfl) ?_
  refine hm_iast hx hb hK hO hS hH h28 (by unfold vp_in; decide) dX8_worthOf_30 (fun H locs hH hS => ?_)
  rw [show (0 : Int32).toNatClampNeg = 0 from rfl] at hH
  obtain ⟨f33, ef33⟩ : ∃ zz_, zz_ = hm_up f17 ((r 23)) (eI Γ 6 (upd pd0 0 (nI d0))) := ⟨_, rfl⟩
  have hH : hm_H Γ f33 H := by rw [ef33]; exact hH
  have h34 : f33 ((r 23)) = some (eI Γ 6 (upd pd0 0 (nI d0))) := by rw [ef33]; exact hm_us
  have h35 : f33 ((r 14)) = some (eJ Γ 64 (fun j => (S0.1 j).1)) := by rw [ef33]; exact (hm_un (hrI 14 23 (by decide) (by decide) (by decide))).trans h19
  have h36 : f33 ((r 15)) = some (eI Γ 64 (fun j => (S0.1 j).2.1)) := by rw [ef33]; exact (hm_un (hrI 15 23 (by decide) (by decide) (by decide))).trans h20
  have h37 : f33 ((r 16)) = some (eI Γ 64 (fun j => (S0.1 j).2.2.1)) := by rw [ef33]; exact (hm_un (hrI 16 23 (by decide) (by decide) (by decide))).trans h21
  have h38 : f33 ((r 17)) = some (eI Γ 64 (fun j => (S0.1 j).2.2.2.1)) := by rw [ef33]; exact (hm_un (hrI 17 23 (by decide) (by decide) (by decide))).trans h22
  have h39 : f33 ((r 18)) = some (eI Γ 64 (fun j => (S0.1 j).2.2.2.2.1)) := by rw [ef33]; exact (hm_un (hrI 18 23 (by decide) (by decide) (by decide))).trans h23
  have h40 : f33 ((r 19)) = some (eI Γ 64 (fun j => (S0.1 j).2.2.2.2.2.1)) := by rw [ef33]; exact (hm_un (hrI 19 23 (by decide) (by decide) (by decide))).trans h24
  have h41 : f33 ((r 20)) = some (eI Γ 64 (fun j => (S0.1 j).2.2.2.2.2.2)) := by rw [ef33]; exact (hm_un (hrI 20 23 (by decide) (by decide) (by decide))).trans h25
  have h42 : f33 m0 = some (eM r mth mpl mga mtr (nI S0.2.1) (nI rr) S0.2.2.1 mli dz0 gd0 S0.2.2.2.1 S0.2.2.2.2 fh0 msh msm mso msp mrf) := by rw [ef33]; exact (hm_un (hm_ne h26 h28 (fun q => by cases q))).trans h26
  have h43 : f33 ((r 21)) = some (eJ Γ 6 (vp_updL pb0 0 (b4 t0))) := by rw [ef33]; exact (hm_un (hrI 21 23 (by decide) (by decide) (by decide))).trans h27
  have h44 : f33 ((r 22)) = some (eI Γ 6 (upd pz0 0 (nI z0))) := by rw [ef33]; exact (hm_un (hrI 22 23 (by decide) (by decide) (by decide))).trans h18
  have h45 : f33 ((r 24)) = some (eI Γ 6 pn0) := by rw [ef33]; exact (hm_un (hrI 24 23 (by decide) (by decide) (by decide))).trans h29
  have h46 : f33 ((r 25)) = some (eI Γ 6 pe0) := by rw [ef33]; exact (hm_un (hrI 25 23 (by decide) (by decide) (by decide))).trans h30
  have h47 : f33 ((r 26)) = some (eI Γ 6 ph0) := by rw [ef33]; exact (hm_un (hrI 26 23 (by decide) (by decide) (by decide))).trans h31
  have h48 : f33 ((r 27)) = some (eI Γ 6 pg0) := by rw [ef33]; exact (hm_un (hrI 27 23 (by decide) (by decide) (by decide))).trans h32
  have hfrX : hm_fr (wS m0 r) f f33 := by
    rw [ef33, ef17, ef1]
    exact (((hm_fr.rf).up (Or.inr ⟨21, by decide, by decide, rfl⟩)).up (Or.inr ⟨22, by decide, by decide, rfl⟩)).up (Or.inr ⟨23, by decide, by decide, rfl⟩)
  refine run d0 hd0 0 t0 z0 S0 _ _ _ _ (-1) (vp_updL pb0 0 (b4 t0)) (upd pz0 0 (nI z0)) (upd pd0 0 (nI d0)) pn0 pe0 ph0 pg0 (by omega) hw0 hz0 hmo0 ⟨h42, ⟨h35, h36, h37, h38, h39, h40, h41⟩, ⟨h43, h44, h34, h45, h46, h47, h48⟩⟩ updL_s upd_s upd_s hfrX ?_ H locs hH hS ls (lv_sub hl [2, 1, 0, 7, 3] rfl)
  intro f2 dz2 gd2 pb2 pz2 pd2 pn2 pe2 ph2 pg2 hHd2 hsm2 hfr2 H locs hH hS ls hl
  refine lv_iload hx hb dX8_worthOf_31 (lv_at hl 0 rfl) ?_
  refine lv_if_lt (tgt := 500) hx hb dX8_worthOf_33 (by decide) (fun _ => ?_) (fun c901 => absurd (by decide) c901)
  refine lv_iload hx hb dX8_worthOf_500 (lv_at hl 1 rfl) ?_
  exact hm_iret hx hb hr hlocks hS hH (⟨rfl, ⟨dz2, gd2, pb2, pz2, pd2, pn2, pe2, ph2, pg2, hHd2⟩, hfr2⟩) (Nat.le_of_ble_eq_true rfl) (Nat.le_of_ble_eq_true rfl) dX8_worthOf_502
