/-! TileWarden: a tried hint is sold -/
theorem hm_c34 {Γ : Gm} {s : State} (hK : KK Γ s) : gC Γ 3 ≠ gC Γ 4 := by
  obtain ⟨k3, c3, a1, a2, -⟩ := (hK.1.2 3 (gC Γ 3, .object "TileWarden$Entry") rfl).2
  obtain ⟨k4, c4, b1, b2, -⟩ := (hK.1.2 4 (gC Γ 4, .object "java/lang/Object") rfl).2
  intro h
  rw [h] at a1
  cases a1.symm.trans b1
  rw [a2] at b2
  injection b2 with _ b2
  injection b2 with b2
  exact absurd b2 (by decide)
theorem dfJx4a65c : ∀ j, j < 3 → defaultValue (tyJx4a65c j) = vp_V [.int 0, .null, .int 0] j
  | 0, _ => rfl
  | 1, _ => rfl
  | 2, _ => rfl
  | j + 3, h => absurd h (by omega)
theorem dfX1 : ∀ j, j < 4 → defaultValue (tyX1 j) = vp_V [.null, .int 0, .int 0, .int 0] j
  | 0, _ => rfl
  | 1, _ => rfl
  | 2, _ => rfl
  | 3, _ => rfl
  | j + 4, h => absurd h (by omega)
theorem dfX3 : ∀ j, j < 10 → defaultValue (tyX3 j) = vp_V [.null, .int 0, .long 0, .int 0, .int 0, .int 0, .int 0, .int 0, .int 0, .int 0] j
  | 0, _ => rfl
  | 1, _ => rfl
  | 2, _ => rfl
  | 3, _ => rfl
  | 4, _ => rfl
  | 5, _ => rfl
  | 6, _ => rfl
  | 7, _ => rfl
  | 8, _ => rfl
  | 9, _ => rfl
  | j + 10, h => absurd h (by omega)
theorem dfX4 : ∀ j, j < 3 → defaultValue (tyX4 j) = vp_V [.int 0, .int 0, .int 0] j
  | 0, _ => rfl
  | 1, _ => rfl
  | 2, _ => rfl
  | j + 3, h => absurd h (by omega)
theorem dfX5 : ∀ j, j < 4 → defaultValue (tyX5 j) = vp_V [.null, .int 0, .int 0, .int 0] j
  | 0, _ => rfl
  | 1, _ => rfl
  | 2, _ => rfl
  | 3, _ => rfl
  | j + 4, h => absurd h (by omega)
theorem dfX6 : ∀ j, j < 4 → defaultValue (tyX6 j) = vp_V [.int 0, .long 0, .int 0, .int 0] j
  | 0, _ => rfl
  | 1, _ => rfl
  | 2, _ => rfl
  | 3, _ => rfl
  | j + 4, h => absurd h (by omega)
theorem dfX7 : ∀ j, j < 12 → defaultValue (tyX7 j) = vp_V [.null, .null, .null, .null, .null, .null, .int 0, .long 0, .long 0, .long 0, .long 0, .long 0] j
  | 0, _ => rfl
  | 1, _ => rfl
  | 2, _ => rfl
  | 3, _ => rfl
  | 4, _ => rfl
  | 5, _ => rfl
  | 6, _ => rfl
  | 7, _ => rfl
  | 8, _ => rfl
  | 9, _ => rfl
  | 10, _ => rfl
  | 11, _ => rfl
  | j + 12, h => absurd h (by omega)
set_option maxHeartbeats 4000000 in
set_option maxRecDepth 100000 in
theorem c_sellTriedHint (Γ : Gm) (l : Launch) (x0 lp lg lt ca tr pl : Nat) (lim : Int32) (rf so sp sh sm : Int64) (sl : Nat) (en : Nat → Nat) (E : Nat → EV) (cn rm us : Int32) (ca1 sl1 : Nat) (en1 : Nat → Nat) (E1 : Nat → EV) (cn1 rm1 us1 u1 u2 u3 : Int32) (ga : Nat) (o : Nat) (pb sc pc0 rw0 lr pd : Int32) (t : Nat → Nat) (z : Nat) (vd : Bool) (n1 m1 m2 : Int32) (ar cap n : Nat) (L : Nat → Nat) (xs : Nat → TX) (f : Hm) (hx0 : f x0 = some (eR 7 [.ref lp, .ref lg, .ref lt, .ref ca, .ref tr, .ref pl, .int lim, .long rf, .long so, .long sp, .long sh, .long sm])) (hC : CA Γ f ca sl 64 en E cn rm us) (hC1 : CA Γ f ca1 sl1 64 en1 E1 cn1 rm1 us1) (htr : f tr = some (eR 5 [.ref ca1, .int u1, .int u2, .int u3])) (hne_ca1_ca : ca1 ≠ ca) (hdis : ∀ i j, i < 64 → j < 64 → en1 j ≠ en i) (hg : f ga = some (eR 3 [.ref o, .int pb, .long (b5 t), .int (nI z), .int sc, .int pc0, .int rw0, .int lr, .int pd, .int (bI vd)])) (ho : f o = some (eR 4 [.int n1, .int m1, .int m2])) (hL : LI Γ f lt ar cap n L) (hn : n < 60) (hcap90 : cap ≤ 90) (hT : ∀ i, i < n → f (L i) = some (tx (xs i))) : Ct Γ l yX7_sellTriedHint cX7_sellTriedHint 3 (none : Option Jvm.ClassFile.FieldType) 8 2 94 [.ref x0, .ref ga] f (fun v f' => v = none ∧ CA Γ f' ca sl 64 en E1 cn1 rm1 us1 ∧ f' o = some (eR 4 [.int n1, .int m1, .int (m2 - mxI u2 1)]) ∧ f' ga = some (eR 3 [.ref o, .int pb, .long (b5 t), .int (nI z), .int sc, .int pc0, .int rw0, .int lr, .int (pd + mxI u2 1), .int (bI vd)]) ∧ f' x0 = some (eR 7 [.ref lp, .ref lg, .ref lt, .ref ca, .ref tr, .ref pl, .int lim, .long rf, .long (so + 1), .long (sp + (mxI u2 1).toInt64), .long (sh + u1.toInt64), .long (sm + u2.toInt64)]) ∧ ∃ q ar' cap', f q = none ∧ f' q = some (tx (n1, b5 t, nI z, u3)) ∧ LI Γ f' lt ar' cap' (n + 1) (va_up L n q) ∧ (ar' = ar ∧ cap' = cap ∨ f ar' = none) ∧ cap' ≤ 90 ∧ hm_k (fun a => (fun a => a = x0 ∨ a = o ∨ a = ga ∨ cS ca 64 en a) a ∨ oL Γ lt ar a) f f') := by
  refine Ct_of (by decide +kernel) (Nat.le_of_ble_eq_true rfl) ?_
  intro p e s m args below meth c hx hb hr hml hown hin hlocks hts hH hO hK ls hl
  have hl : lv_has ls 3 [(0, .ref x0), (1, .ref ga)] := hl
  have hS : va_S (gA Γ) s.heap s.heap [] := va_S.rf
  obtain ⟨⟨moL, hlL⟩, ⟨gL, hgL, -⟩, -⟩ := id hL
  have hSn : ∀ b ci fs, f b = some (eR ci fs) → ci ≠ 7 → ci ≠ 4 → ci ≠ 3 → ci ≠ 1 → ci ≠ 2 → ¬ (fun a => a = x0 ∨ a = o ∨ a = ga ∨ cS ca 64 en a) b := by
    rintro b ci fs hb h7 h4 h3_ h1_ h2_ (q | q | q | q)
    · exact hm_ne hb hx0 (fun z => by injection z with z; injection z with z; exact h7 z) q
    · exact hm_ne hb ho (fun z => by injection z with z; injection z with z; exact h4 z) q
    · exact hm_ne hb hg (fun z => by injection z with z; injection z with z; exact h3_ z) q
    · exact cS_not hC hb h1_ h2_ q
  have hSa : ∀ b x, f b = some (.inl x) → ¬ (fun a => a = x0 ∨ a = o ∨ a = ga ∨ cS ca 64 en a) b := by
    rintro b x hb (q | q | q | q)
    · exact hm_ne hb hx0 (fun z => by cases z) q
    · exact hm_ne hb ho (fun z => by cases z) q
    · exact hm_ne hb hg (fun z => by cases z) q
    · rcases q with q | ⟨i, hi, q⟩
      · exact hm_ne hb hC.1 (fun z => by cases z) q
      · exact hm_ne hb (hC.2.2.1 i hi) (fun z => by cases z) q
  refine lv_aload_n hx hb dX7_sellTriedHint_0 rfl (lv_at hl 0 rfl) ?_
  refine gf_X7_36 hx hb hts hown hK hH hx0 rfl dX7_sellTriedHint_1 ?_
  refine hm_callV (rest := []) (k := 2) q3_216 q3_217 q1_8 q3_219 q3_218 rfl nm_X5_cost rfl hx hb hml hown hts hK hO hS hH hl.1 htr (c_X5_cost Γ l tr ca1 u1 u2 u3 f htr) ⟨Nat.le_of_ble_eq_true rfl, Nat.le_of_ble_eq_true rfl⟩ ⟨Nat.le_of_ble_eq_true rfl, Nat.le_of_ble_eq_true rfl⟩ rfl (Nat.le_of_ble_eq_true rfl) dX7_sellTriedHint_4 (fun v_ f_ H locs hp_ hH hS => ?_)
  obtain ⟨rfl, ef_⟩ := hp_
  rw [ef_] at hH
  clear ef_
  refine W.eq (g2 := F0 m 7 ls [.int (mxI u2 1)]) rfl ?_
  refine lv_istore_n (lv' := [(2, .int ((mxI u2 1))), (0, .ref x0), (1, .ref ga)]) hx hb dX7_sellTriedHint_7 rfl hl (by decide) rfl (fun ls hl => ?_)
  refine lv_aload_n hx hb dX7_sellTriedHint_8 rfl (lv_at hl 1 rfl) ?_
  refine gf_X7_27 hx hb hts hown hK hH hx0 rfl dX7_sellTriedHint_9 ?_
  refine lv_aload_n hx hb dX7_sellTriedHint_12 rfl (lv_at hl 1 rfl) ?_
  refine gf_X7_36 hx hb hts hown hK hH hx0 rfl dX7_sellTriedHint_13 ?_
  refine gf_X7_286 hx hb hts hown hK hH htr rfl dX7_sellTriedHint_16 ?_
  obtain ⟨hca_, -⟩ := id hC
  refine hm_callV (rest := []) (k := 2) q3_168 q3_169 q1_5 q3_171 q3_170 rfl nm_X1_become rfl hx hb hml hown hts hK hO hS hH hl.1 hca_ (c_X1_become Γ l ca sl 64 en E cn rm us ca1 sl1 en1 E1 cn1 rm1 us1 f hC (by decide) hC1 hne_ca1_ca hdis) ⟨Nat.le_of_ble_eq_true rfl, Nat.le_of_ble_eq_true rfl⟩ ⟨Nat.le_of_ble_eq_true rfl, Nat.le_of_ble_eq_true rfl⟩ rfl (Nat.le_of_ble_eq_true rfl) dX7_sellTriedHint_19 (fun v_ f_ H locs hp_ hH hS => ?_)
  obtain ⟨rfl, hCb, hfr1⟩ := hp_
  refine W.eq (g2 := F0 m 22 ls []) rfl ?_
  have h1 : f_ x0 = some (eR 7 [.ref lp, .ref lg, .ref lt, .ref ca, .ref tr, .ref pl, .int lim, .long rf, .long so, .long sp, .long sh, .long sm]) := (hfr1 _ (cS_not hC hx0 (by decide) (by decide))).trans hx0
  have h2 : f_ tr = some (eR 5 [.ref ca1, .int u1, .int u2, .int u3]) := (hfr1 _ (cS_not hC htr (by decide) (by decide))).trans htr
  have h3 : f_ ga = some (eR 3 [.ref o, .int pb, .long (b5 t), .int (nI z), .int sc, .int pc0, .int rw0, .int lr, .int pd, .int (bI vd)]) := (hfr1 _ (cS_not hC hg (by decide) (by decide))).trans hg
  have h4 : f_ o = some (eR 4 [.int n1, .int m1, .int m2]) := (hfr1 _ (cS_not hC ho (by decide) (by decide))).trans ho
  have h5 : f_ lt = some (eR 0 [.int moL, .ref ar, .int (nI n)]) := (hfr1 _ (cS_not hC hlL (by decide) (by decide))).trans hlL
  have hk0 : hm_k (fun a => a = x0 ∨ a = o ∨ a = ga ∨ cS ca 64 en a) f f_ := hfr1.k.mono (fun q hq => Or.inr (Or.inr (Or.inr hq)))
  refine lv_aload_n hx hb dX7_sellTriedHint_22 rfl (lv_at hl 2 rfl) ?_
  refine gf_X7_168 hx hb hts hown hK hH h3 rfl dX7_sellTriedHint_23 ?_
  refine lv_dup hx hb dX7_sellTriedHint_26 rfl ?_
  refine gf_X7_172 hx hb hts hown hK hH h4 rfl dX7_sellTriedHint_27 ?_
  refine lv_iload_n hx hb dX7_sellTriedHint_30 rfl (lv_at hl 0 rfl) ?_
  refine lv_isub hx hb dX7_sellTriedHint_31 ?_
  refine lv_topi (fun v6 ev6 => ?_)
  replace ev6 : v6 = (m2 - mxI u2 1) := ev6.trans (rfl)
  subst ev6
  refine pf_X7_172 hx hb hts hown hK hO hS hH h4 rfl (Nat.le_of_ble_eq_true rfl) rfl dX7_sellTriedHint_32 (fun H locs hH hS => ?_)
  obtain ⟨f7, ef7⟩ : ∃ zz_, zz_ = hm_up f_ o (eR 4 [.int n1, .int m1, .int ((m2 - mxI u2 1))]) := ⟨_, rfl⟩
  have hH : hm_H Γ f7 H := by rw [ef7]; exact hH
  have h8 : f7 o = some (eR 4 [.int n1, .int m1, .int ((m2 - mxI u2 1))]) := by rw [ef7]; exact hm_us
  have h9 : f7 x0 = some (eR 7 [.ref lp, .ref lg, .ref lt, .ref ca, .ref tr, .ref pl, .int lim, .long rf, .long so, .long sp, .long sh, .long sm]) := by rw [ef7]; exact (hm_un (hm_ne h1 h4 (fun q => by injection q with q; injection q with q; cases q))).trans h1
  have h10 : f7 tr = some (eR 5 [.ref ca1, .int u1, .int u2, .int u3]) := by rw [ef7]; exact (hm_un (hm_ne h2 h4 (fun q => by injection q with q; injection q with q; cases q))).trans h2
  have h11 : f7 ga = some (eR 3 [.ref o, .int pb, .long (b5 t), .int (nI z), .int sc, .int pc0, .int rw0, .int lr, .int pd, .int (bI vd)]) := by rw [ef7]; exact (hm_un (hm_ne h3 h4 (fun q => by injection q with q; injection q with q; cases q))).trans h3
  have h12 : f7 lt = some (eR 0 [.int moL, .ref ar, .int (nI n)]) := by rw [ef7]; exact (hm_un (hm_ne h5 h4 (fun q => by injection q with q; injection q with q; cases q))).trans h5
  refine lv_aload_n hx hb dX7_sellTriedHint_35 rfl (lv_at hl 2 rfl) ?_
  refine lv_dup hx hb dX7_sellTriedHint_36 rfl ?_
  refine gf_X7_237 hx hb hts hown hK hH h11 rfl dX7_sellTriedHint_37 ?_
  refine lv_iload_n hx hb dX7_sellTriedHint_40 rfl (lv_at hl 0 rfl) ?_
  refine lv_iadd hx hb dX7_sellTriedHint_41 ?_
  refine lv_topi (fun v13 ev13 => ?_)
  replace ev13 : v13 = (pd + mxI u2 1) := ev13.trans (rfl)
  subst ev13
  refine pf_X7_237 hx hb hts hown hK hO hS hH h11 rfl (Nat.le_of_ble_eq_true rfl) rfl dX7_sellTriedHint_42 (fun H locs hH hS => ?_)
  obtain ⟨f14, ef14⟩ : ∃ zz_, zz_ = hm_up f7 ga (eR 3 [.ref o, .int pb, .long (b5 t), .int (nI z), .int sc, .int pc0, .int rw0, .int lr, .int ((pd + mxI u2 1)), .int (bI vd)]) := ⟨_, rfl⟩
  have hH : hm_H Γ f14 H := by rw [ef14]; exact hH
  have h15 : f14 ga = some (eR 3 [.ref o, .int pb, .long (b5 t), .int (nI z), .int sc, .int pc0, .int rw0, .int lr, .int ((pd + mxI u2 1)), .int (bI vd)]) := by rw [ef14]; exact hm_us
  have h16 : f14 x0 = some (eR 7 [.ref lp, .ref lg, .ref lt, .ref ca, .ref tr, .ref pl, .int lim, .long rf, .long so, .long sp, .long sh, .long sm]) := by rw [ef14]; exact (hm_un (hm_ne h9 h11 (fun q => by injection q with q; injection q with q; cases q))).trans h9
  have h17 : f14 tr = some (eR 5 [.ref ca1, .int u1, .int u2, .int u3]) := by rw [ef14]; exact (hm_un (hm_ne h10 h11 (fun q => by injection q with q; injection q with q; cases q))).trans h10
  have h18 : f14 o = some (eR 4 [.int n1, .int m1, .int ((m2 - mxI u2 1))]) := by rw [ef14]; exact (hm_un (hm_ne h8 h11 (fun q => by injection q with q; injection q with q; cases q))).trans h8
  have h19 : f14 lt = some (eR 0 [.int moL, .ref ar, .int (nI n)]) := by rw [ef14]; exact (hm_un (hm_ne h12 h11 (fun q => by injection q with q; injection q with q; cases q))).trans h12
  refine lv_aload_n hx hb dX7_sellTriedHint_45 rfl (lv_at hl 1 rfl) ?_
  refine gf_X7_19 hx hb hts hown hK hH h16 rfl dX7_sellTriedHint_46 ?_
  refine hm_new hx hb hts inX6 tyX6 tyX6_ok hown q3_130 q4_2 q1_27 hK hO hS hH (ci := 6) rfl (fs := [.int 0, .long 0, .int 0, .int 0]) dfX6 (Nat.le_of_ble_eq_true rfl) (Nat.le_of_ble_eq_true rfl) dX7_sellTriedHint_49 (fun q20 H hH hn_q20 hb_q20 hS => ?_)
  obtain ⟨f21, ef21⟩ : ∃ zz_, zz_ = hm_up f14 q20 (eR 6 [.int 0, .long 0, .int 0, .int 0]) := ⟨_, rfl⟩
  have hH : hm_H Γ f21 H := by rw [ef21]; exact hH
  have h22 : f21 q20 = some (eR 6 [.int 0, .long 0, .int 0, .int 0]) := by rw [ef21]; exact hm_us
  have h23 : f21 x0 = some (eR 7 [.ref lp, .ref lg, .ref lt, .ref ca, .ref tr, .ref pl, .int lim, .long rf, .long so, .long sp, .long sh, .long sm]) := by rw [ef21]; exact (hm_un (hm_nn h16 hn_q20)).trans h16
  have h24 : f21 tr = some (eR 5 [.ref ca1, .int u1, .int u2, .int u3]) := by rw [ef21]; exact (hm_un (hm_nn h17 hn_q20)).trans h17
  have h25 : f21 ga = some (eR 3 [.ref o, .int pb, .long (b5 t), .int (nI z), .int sc, .int pc0, .int rw0, .int lr, .int ((pd + mxI u2 1)), .int (bI vd)]) := by rw [ef21]; exact (hm_un (hm_nn h15 hn_q20)).trans h15
  have h26 : f21 o = some (eR 4 [.int n1, .int m1, .int ((m2 - mxI u2 1))]) := by rw [ef21]; exact (hm_un (hm_nn h18 hn_q20)).trans h18
  have h27 : f21 lt = some (eR 0 [.int moL, .ref ar, .int (nI n)]) := by rw [ef21]; exact (hm_un (hm_nn h19 hn_q20)).trans h19
  have hqo : q20 ≠ o := Ne.symm (hm_nn h18 hn_q20)
  have hqg : q20 ≠ ga := Ne.symm (hm_nn h15 hn_q20)
  have hqx : q20 ≠ x0 := Ne.symm (hm_nn h16 hn_q20)
  have hq_ : f_ q20 = none := by have hz := hn_q20; rw [ef14, hm_un hqg, ef7, hm_un hqo] at hz; exact hz
  have hqS : ¬ cS ca 64 en q20 := by
    rintro (z | ⟨i, hi, z⟩)
    · exact hm_nn hCb.1 hq_ z.symm
    · exact hm_nn (hCb.2.2.1 i hi) hq_ z.symm
  have hq0 : f q20 = none := (hfr1 _ hqS).symm.trans hq_
  refine lv_dup hx hb dX7_sellTriedHint_52 rfl ?_
  refine lv_aload_n hx hb dX7_sellTriedHint_53 rfl (lv_at hl 2 rfl) ?_
  refine lv_aload_n hx hb dX7_sellTriedHint_54 rfl (lv_at hl 1 rfl) ?_
  refine gf_X7_36 hx hb hts hown hK hH h23 rfl dX7_sellTriedHint_55 ?_
  refine gf_X7_185 hx hb hts hown hK hH h24 rfl dX7_sellTriedHint_58 ?_
  refine hm_callI (rest := [.ref q20, .ref lt]) (k := 1) q4_3 q4_4 q1_27 q4_5 nm_X6_init rfl rfl hx hb hml hown hts hK hO hS hH hl.1 (c_X6_init Γ l q20 ga o 0 0 0 u3 0 (b5 t) (nI z) n1 m1 (m2 - mxI u2 1) pb sc pc0 rw0 lr (pd + mxI u2 1) (bI vd) f21 h22 h25 h26) ⟨Nat.le_of_ble_eq_true rfl, Nat.le_of_ble_eq_true rfl⟩ ⟨Nat.le_of_ble_eq_true rfl, Nat.le_of_ble_eq_true rfl⟩ rfl (Nat.le_of_ble_eq_true rfl) dX7_sellTriedHint_61 (fun v2_ f2_ H locs hp_ hH hS => ?_)
  obtain ⟨rfl, ef2_⟩ := hp_
  refine W.eq (g2 := F0 m 64 ls [.ref q20, .ref lt]) rfl ?_
  have h28 : f2_ x0 = some (eR 7 [.ref lp, .ref lg, .ref lt, .ref ca, .ref tr, .ref pl, .int lim, .long rf, .long so, .long sp, .long sh, .long sm]) := by rw [ef2_]; exact (hm_un (hm_ne h23 h22 (fun q => by injection q with q; injection q with q; cases q))).trans h23
  have h29 : f2_ tr = some (eR 5 [.ref ca1, .int u1, .int u2, .int u3]) := by rw [ef2_]; exact (hm_un (hm_ne h24 h22 (fun q => by injection q with q; injection q with q; cases q))).trans h24
  have h30 : f2_ ga = some (eR 3 [.ref o, .int pb, .long (b5 t), .int (nI z), .int sc, .int pc0, .int rw0, .int lr, .int ((pd + mxI u2 1)), .int (bI vd)]) := by rw [ef2_]; exact (hm_un (hm_ne h25 h22 (fun q => by injection q with q; injection q with q; cases q))).trans h25
  have h31 : f2_ o = some (eR 4 [.int n1, .int m1, .int ((m2 - mxI u2 1))]) := by rw [ef2_]; exact (hm_un (hm_ne h26 h22 (fun q => by injection q with q; injection q with q; cases q))).trans h26
  have h32 : f2_ lt = some (eR 0 [.int moL, .ref ar, .int (nI n)]) := by rw [ef2_]; exact (hm_un (hm_ne h27 h22 (fun q => by injection q with q; injection q with q; cases q))).trans h27
  have htq : f2_ q20 = some (tx (n1, b5 t, nI z, u3)) := by rw [ef2_]; exact hm_us
  have hk2 : hm_k (fun a => a = x0 ∨ a = o ∨ a = ga ∨ cS ca 64 en a) f f2_ := by rw [ef2_, ef21, ef14, ef7]; exact ((((hk0.up (Or.inr (Or.inl rfl))).up (Or.inr (Or.inr (Or.inl rfl)))).upN hq0).upN hq0)
  have hC2 : CA Γ f2_ ca sl 64 en E1 cn1 rm1 us1 := hCb.kp (S := fun a => a = o ∨ a = ga) (by rw [ef2_, ef21, ef14, ef7]; exact (((hm_k.rf.up (Or.inl rfl)).up (Or.inr rfl)).upN hq_).upN hq_) (by rintro (z | z); exact hm_ne hC.1 ho (fun q => by injection q with q; injection q with q; cases q) z; exact hm_ne hC.1 hg (fun q => by injection q with q; injection q with q; cases q) z) (by obtain ⟨g_, hg_, -⟩ := hC.2.1; rintro (z | z); exact hm_ne hg_ ho (fun q => by cases q) z; exact hm_ne hg_ hg (fun q => by cases q) z) (fun i hi => by rintro (z | z); exact hm_ne (hC.2.2.1 i hi) ho (fun q => by injection q with q; injection q with q; cases q) z; exact hm_ne (hC.2.2.1 i hi) hg (fun q => by injection q with q; injection q with q; cases q) z)
  have hL2 : LI Γ f2_ lt ar cap n L := hL.kp hk2 (hSn _ _ _ hlL (by decide) (by decide) (by decide) (by decide) (by decide)) (hSa _ _ hgL)
  have hel2 : ∀ i, i < n → isO f2_ (L i) := fun i hi => ⟨6, _, (RX6, TX6, 4), hk2 _ _ (hSn _ _ _ (hT i hi) (by decide) (by decide) (by decide) (by decide) (by decide)) (hT i hi), rfl, by decide⟩
  have hxO : isO f2_ q20 := ⟨6, _, (RX6, TX6, 4), htq, rfl, by decide⟩
  have hxa : q20 ≠ lt := hm_ne htq h32 (fun z => by injection z with z; injection z with z; cases z)
  have hx2_ := h28
  have ho2_ := h31
  have hg2x_ := h30
  obtain ⟨g2_, hg2_, -⟩ := hL2.2.1
  have hoL : ∀ b ci fs, f2_ b = some (eR ci fs) → ci ≠ 0 → ¬ oL Γ lt ar b := by
    rintro b ci fs hb h0 (z | ⟨z, _⟩)
    · exact hm_ne hb h32 (fun q => by injection q with q; injection q with q; exact h0 q) z
    · exact hm_ne hb hg2_ (fun q => by cases q) z
  have hoA : ∀ b n_ g_, f2_ b = some (eN Γ n_ g_) → b ≠ ar → ¬ oL Γ lt ar b := by
    rintro b n_ g_ hb h0 (z | ⟨z, _⟩)
    · exact hm_ne hb h32 (fun q => by cases q) z
    · exact h0 z
  refine hm_callV (rest := []) (k := 6) q2_116 q2_117 q1_4 q2_119 q2_118 rfl nm_Jx4a65c_add_9ea2d rfl hx hb hml hown hts hK hO hS hH hl.1 h32 (c_add Γ l lt ar cap n L q20 f2_ hL2 hn hcap90 hxO hxa hel2) ⟨Nat.le_of_ble_eq_true rfl, Nat.le_of_ble_eq_true rfl⟩ ⟨Nat.le_of_ble_eq_true rfl, Nat.le_of_ble_eq_true rfl⟩ rfl (Nat.le_of_ble_eq_true rfl) dX7_sellTriedHint_64 (fun v3_ f3_ H locs hp_ hH hS => ?_)
  obtain ⟨rfl, ar', cap', w1, w2, w3, w4⟩ := hp_
  refine W.eq (g2 := F0 m 67 ls [.int 1]) rfl ?_
  have h33 : f3_ x0 = some (eR 7 [.ref lp, .ref lg, .ref lt, .ref ca, .ref tr, .ref pl, .int lim, .long rf, .long so, .long sp, .long sh, .long sm]) := w2 _ _ (hoL _ _ _ h28 (by decide)) h28
  have h34 : f3_ tr = some (eR 5 [.ref ca1, .int u1, .int u2, .int u3]) := w2 _ _ (hoL _ _ _ h29 (by decide)) h29
  have h35 : f3_ ga = some (eR 3 [.ref o, .int pb, .long (b5 t), .int (nI z), .int sc, .int pc0, .int rw0, .int lr, .int ((pd + mxI u2 1)), .int (bI vd)]) := w2 _ _ (hoL _ _ _ h30 (by decide)) h30
  have h36 : f3_ o = some (eR 4 [.int n1, .int m1, .int ((m2 - mxI u2 1))]) := w2 _ _ (hoL _ _ _ h31 (by decide)) h31
  have htq3 := w2 _ _ (hoL _ _ _ htq (by decide)) htq
  have hk3 : hm_k (fun a => (fun a => a = x0 ∨ a = o ∨ a = ga ∨ cS ca 64 en a) a ∨ oL Γ lt ar a) f f3_ := (hk2.mono (fun _ z => Or.inl z)).tr (w2.mono (fun _ z => Or.inr z))
  have hC3 : CA Γ f3_ ca sl 64 en E1 cn1 rm1 us1 := by
    obtain ⟨gs_, hgs_, -⟩ := hC2.2.1
    refine hC2.kp w2 (hoL _ _ _ hC2.1 (by decide)) ?_ (fun i hi => hoL _ _ _ (hC2.2.2.1 i hi) (by decide))
    rintro (z | ⟨z, _⟩)
    · exact hm_ne hgs_ h32 (fun q => by cases q) z
    · rw [z, hg2_] at hgs_; injection hgs_ with q; injection q with q; injection q with q; exact hm_c34 hK q.symm
  have w5 : ar' = ar ∧ cap' = cap ∨ f ar' = none := by
    rcases w3 with z | z
    · exact Or.inl z
    · refine Or.inr ?_
      cases hz : f ar' with
      | none => rfl
      | some e_ =>
        exfalso
        by_cases hs : (fun a => a = x0 ∨ a = o ∨ a = ga ∨ cS ca 64 en a) ar'
        · rcases hs with q | q | q | q
          · rw [q] at z; rw [hx2_] at z; cases z
          · rw [q] at z; rw [ho2_] at z; cases z
          · rw [q] at z; rw [hg2x_] at z; cases z
          · rcases q with q | ⟨i, hi, q⟩
            · rw [q] at z; rw [hC2.1] at z; cases z
            · rw [q] at z; rw [hC2.2.2.1 i hi] at z; cases z
        · rw [hk2 _ _ hs hz] at z; cases z
  have hx3_ := h33
  refine lv_pop hx hb dX7_sellTriedHint_67 rfl ?_
  refine lv_aload_n hx hb dX7_sellTriedHint_68 rfl (lv_at hl 1 rfl) ?_
  refine lv_dup hx hb dX7_sellTriedHint_69 rfl ?_
  refine gf_X7_51 hx hb hts hown hK hH h33 rfl dX7_sellTriedHint_70 ?_
  refine lv_lconst (v := 1) hx hb dX7_sellTriedHint_73 (by decide) ?_
  refine lv_ladd hx hb dX7_sellTriedHint_74 ?_
  refine lv_topl (fun v37 ev37 => ?_)
  replace ev37 : v37 = (so + 1) := ev37.trans (rfl)
  subst ev37
  refine pf_X7_51 hx hb hts hown hK hO hS hH h33 rfl (Nat.le_of_ble_eq_true rfl) rfl dX7_sellTriedHint_75 (fun H locs hH hS => ?_)
  obtain ⟨f38, ef38⟩ : ∃ zz_, zz_ = hm_up f3_ x0 (eR 7 [.ref lp, .ref lg, .ref lt, .ref ca, .ref tr, .ref pl, .int lim, .long rf, .long ((so + 1)), .long sp, .long sh, .long sm]) := ⟨_, rfl⟩
  have hH : hm_H Γ f38 H := by rw [ef38]; exact hH
  have h39 : f38 x0 = some (eR 7 [.ref lp, .ref lg, .ref lt, .ref ca, .ref tr, .ref pl, .int lim, .long rf, .long ((so + 1)), .long sp, .long sh, .long sm]) := by rw [ef38]; exact hm_us
  have h40 : f38 tr = some (eR 5 [.ref ca1, .int u1, .int u2, .int u3]) := by rw [ef38]; exact (hm_un (hm_ne h34 h33 (fun q => by injection q with q; injection q with q; cases q))).trans h34
  have h41 : f38 ga = some (eR 3 [.ref o, .int pb, .long (b5 t), .int (nI z), .int sc, .int pc0, .int rw0, .int lr, .int ((pd + mxI u2 1)), .int (bI vd)]) := by rw [ef38]; exact (hm_un (hm_ne h35 h33 (fun q => by injection q with q; injection q with q; cases q))).trans h35
  have h42 : f38 o = some (eR 4 [.int n1, .int m1, .int ((m2 - mxI u2 1))]) := by rw [ef38]; exact (hm_un (hm_ne h36 h33 (fun q => by injection q with q; injection q with q; cases q))).trans h36
  refine lv_aload_n hx hb dX7_sellTriedHint_78 rfl (lv_at hl 1 rfl) ?_
  refine lv_dup hx hb dX7_sellTriedHint_79 rfl ?_
  refine gf_X7_54 hx hb hts hown hK hH h39 rfl dX7_sellTriedHint_80 ?_
  refine lv_iload_n hx hb dX7_sellTriedHint_83 rfl (lv_at hl 0 rfl) ?_
  refine lv_i2l hx hb dX7_sellTriedHint_84 rfl ?_
  refine lv_topl (fun v43 ev43 => ?_)
  replace ev43 : v43 = ((mxI u2 1).toInt64) := ev43.trans (rfl)
  subst ev43
  refine lv_ladd hx hb dX7_sellTriedHint_85 ?_
  refine lv_topl (fun v44 ev44 => ?_)
  replace ev44 : v44 = (sp + (mxI u2 1).toInt64) := ev44.trans (rfl)
  subst ev44
  refine pf_X7_54 hx hb hts hown hK hO hS hH h39 rfl (Nat.le_of_ble_eq_true rfl) rfl dX7_sellTriedHint_86 (fun H locs hH hS => ?_)
  obtain ⟨f45, ef45⟩ : ∃ zz_, zz_ = hm_up f38 x0 (eR 7 [.ref lp, .ref lg, .ref lt, .ref ca, .ref tr, .ref pl, .int lim, .long rf, .long ((so + 1)), .long ((sp + (mxI u2 1).toInt64)), .long sh, .long sm]) := ⟨_, rfl⟩
  have hH : hm_H Γ f45 H := by rw [ef45]; exact hH
  have h46 : f45 x0 = some (eR 7 [.ref lp, .ref lg, .ref lt, .ref ca, .ref tr, .ref pl, .int lim, .long rf, .long ((so + 1)), .long ((sp + (mxI u2 1).toInt64)), .long sh, .long sm]) := by rw [ef45]; exact hm_us
  have h47 : f45 tr = some (eR 5 [.ref ca1, .int u1, .int u2, .int u3]) := by rw [ef45]; exact (hm_un (hm_ne h40 h39 (fun q => by injection q with q; injection q with q; cases q))).trans h40
  have h48 : f45 ga = some (eR 3 [.ref o, .int pb, .long (b5 t), .int (nI z), .int sc, .int pc0, .int rw0, .int lr, .int ((pd + mxI u2 1)), .int (bI vd)]) := by rw [ef45]; exact (hm_un (hm_ne h41 h39 (fun q => by injection q with q; injection q with q; cases q))).trans h41
  have h49 : f45 o = some (eR 4 [.int n1, .int m1, .int ((m2 - mxI u2 1))]) := by rw [ef45]; exact (hm_un (hm_ne h42 h39 (fun q => by injection q with q; injection q with q; cases q))).trans h42
  refine lv_aload_n hx hb dX7_sellTriedHint_89 rfl (lv_at hl 1 rfl) ?_
  refine lv_dup hx hb dX7_sellTriedHint_90 rfl ?_
  refine gf_X7_57 hx hb hts hown hK hH h46 rfl dX7_sellTriedHint_91 ?_
  refine lv_aload_n hx hb dX7_sellTriedHint_94 rfl (lv_at hl 1 rfl) ?_
  refine gf_X7_36 hx hb hts hown hK hH h46 rfl dX7_sellTriedHint_95 ?_
  refine gf_X7_295 hx hb hts hown hK hH h47 rfl dX7_sellTriedHint_98 ?_
  refine lv_i2l hx hb dX7_sellTriedHint_101 rfl ?_
  refine lv_topl (fun v50 ev50 => ?_)
  replace ev50 : v50 = (u1.toInt64) := ev50.trans (rfl)
  subst ev50
  refine lv_ladd hx hb dX7_sellTriedHint_102 ?_
  refine lv_topl (fun v51 ev51 => ?_)
  replace ev51 : v51 = (sh + u1.toInt64) := ev51.trans (rfl)
  subst ev51
  refine pf_X7_57 hx hb hts hown hK hO hS hH h46 rfl (Nat.le_of_ble_eq_true rfl) rfl dX7_sellTriedHint_103 (fun H locs hH hS => ?_)
  obtain ⟨f52, ef52⟩ : ∃ zz_, zz_ = hm_up f45 x0 (eR 7 [.ref lp, .ref lg, .ref lt, .ref ca, .ref tr, .ref pl, .int lim, .long rf, .long ((so + 1)), .long ((sp + (mxI u2 1).toInt64)), .long ((sh + u1.toInt64)), .long sm]) := ⟨_, rfl⟩
  have hH : hm_H Γ f52 H := by rw [ef52]; exact hH
  have h53 : f52 x0 = some (eR 7 [.ref lp, .ref lg, .ref lt, .ref ca, .ref tr, .ref pl, .int lim, .long rf, .long ((so + 1)), .long ((sp + (mxI u2 1).toInt64)), .long ((sh + u1.toInt64)), .long sm]) := by rw [ef52]; exact hm_us
  have h54 : f52 tr = some (eR 5 [.ref ca1, .int u1, .int u2, .int u3]) := by rw [ef52]; exact (hm_un (hm_ne h47 h46 (fun q => by injection q with q; injection q with q; cases q))).trans h47
  have h55 : f52 ga = some (eR 3 [.ref o, .int pb, .long (b5 t), .int (nI z), .int sc, .int pc0, .int rw0, .int lr, .int ((pd + mxI u2 1)), .int (bI vd)]) := by rw [ef52]; exact (hm_un (hm_ne h48 h46 (fun q => by injection q with q; injection q with q; cases q))).trans h48
  have h56 : f52 o = some (eR 4 [.int n1, .int m1, .int ((m2 - mxI u2 1))]) := by rw [ef52]; exact (hm_un (hm_ne h49 h46 (fun q => by injection q with q; injection q with q; cases q))).trans h49
  refine lv_aload_n hx hb dX7_sellTriedHint_106 rfl (lv_at hl 1 rfl) ?_
  refine lv_dup hx hb dX7_sellTriedHint_107 rfl ?_
  refine gf_X7_60 hx hb hts hown hK hH h53 rfl dX7_sellTriedHint_108 ?_
  refine lv_aload_n hx hb dX7_sellTriedHint_111 rfl (lv_at hl 1 rfl) ?_
  refine gf_X7_36 hx hb hts hown hK hH h53 rfl dX7_sellTriedHint_112 ?_
  refine gf_X7_298 hx hb hts hown hK hH h54 rfl dX7_sellTriedHint_115 ?_
  refine lv_i2l hx hb dX7_sellTriedHint_118 rfl ?_
  refine lv_topl (fun v57 ev57 => ?_)
  replace ev57 : v57 = (u2.toInt64) := ev57.trans (rfl)
  subst ev57
  refine lv_ladd hx hb dX7_sellTriedHint_119 ?_
  refine lv_topl (fun v58 ev58 => ?_)
  replace ev58 : v58 = (sm + u2.toInt64) := ev58.trans (rfl)
  subst ev58
  refine pf_X7_60 hx hb hts hown hK hO hS hH h53 rfl (Nat.le_of_ble_eq_true rfl) rfl dX7_sellTriedHint_120 (fun H locs hH hS => ?_)
  obtain ⟨f59, ef59⟩ : ∃ zz_, zz_ = hm_up f52 x0 (eR 7 [.ref lp, .ref lg, .ref lt, .ref ca, .ref tr, .ref pl, .int lim, .long rf, .long ((so + 1)), .long ((sp + (mxI u2 1).toInt64)), .long ((sh + u1.toInt64)), .long ((sm + u2.toInt64))]) := ⟨_, rfl⟩
  have hH : hm_H Γ f59 H := by rw [ef59]; exact hH
  have h60 : f59 x0 = some (eR 7 [.ref lp, .ref lg, .ref lt, .ref ca, .ref tr, .ref pl, .int lim, .long rf, .long ((so + 1)), .long ((sp + (mxI u2 1).toInt64)), .long ((sh + u1.toInt64)), .long ((sm + u2.toInt64))]) := by rw [ef59]; exact hm_us
  have h61 : f59 tr = some (eR 5 [.ref ca1, .int u1, .int u2, .int u3]) := by rw [ef59]; exact (hm_un (hm_ne h54 h53 (fun q => by injection q with q; injection q with q; cases q))).trans h54
  have h62 : f59 ga = some (eR 3 [.ref o, .int pb, .long (b5 t), .int (nI z), .int sc, .int pc0, .int rw0, .int lr, .int ((pd + mxI u2 1)), .int (bI vd)]) := by rw [ef59]; exact (hm_un (hm_ne h55 h53 (fun q => by injection q with q; injection q with q; cases q))).trans h55
  have h63 : f59 o = some (eR 4 [.int n1, .int m1, .int ((m2 - mxI u2 1))]) := by rw [ef59]; exact (hm_un (hm_ne h56 h53 (fun q => by injection q with q; injection q with q; cases q))).trans h56
  have hkx : hm_k (fun a => a = x0) f3_ f59 := by rw [ef59, ef52, ef45, ef38]; exact ((((hm_k.rf (S := fun a => a = x0)).up rfl).up rfl).up rfl).up rfl
  have hnx : ∀ b ci fs, f3_ b = some (eR ci fs) → ci ≠ 7 → ¬ b = x0 := fun b ci fs hb h7 => hm_ne hb hx3_ (fun q => by injection q with q; injection q with q; exact h7 q)
  have hC4 := hC3.kp hkx (hnx _ _ _ hC3.1 (by decide)) (by obtain ⟨g_, hg_, -⟩ := hC3.2.1; exact hm_ne hg_ hx3_ (fun q => by cases q)) (fun i hi => hnx _ _ _ (hC3.2.2.1 i hi) (by decide))
  have hq4 := hkx _ _ (hnx _ _ _ htq3 (by decide)) htq3
  have hL4 := w1.kp hkx (by obtain ⟨⟨_, hz⟩, -⟩ := w1; exact hnx _ _ _ hz (by decide)) (by obtain ⟨-, ⟨_, hz, -⟩, -⟩ := w1; exact hm_ne hz hx3_ (fun q => by cases q))
  have hk4 := hk3.tr (hkx.mono (fun _ z => Or.inl (Or.inl z)))
  exact hm_vret hx hb hr hlocks hS hH (⟨rfl, hC4, h63, h62, h60, q20, ar', cap', hq0, hq4, hL4, w5, w4, hk4⟩) (Nat.le_of_ble_eq_true rfl) (Nat.le_of_ble_eq_true rfl) dX7_sellTriedHint_123
