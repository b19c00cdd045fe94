/-! TileWarden's making -/
def E0 : Nat → EV := fun _ => (0, 0, 0, 0, -1, 0, 0)
theorem hm_k.back {x0 a : Nat} {f g : Hm} {e : va_E} (h : hm_k (fun q => q = x0) f g) (hx : g x0 = some e) (ha : g a = none) : f a = none := by
  cases hz : f a with
  | none => rfl
  | some y =>
    exfalso
    rw [h a y (Ne.symm (hm_nn hx ha)) hz] at ha
    cases ha
theorem hm_k.trF {x0 a : Nat} {f g g2 : Hm} (h : hm_k (fun q => q = x0) f g) (h2 : hm_k (fun q => q = a) g g2) (ha : f a = none) : hm_k (fun q => q = x0) f g2 := fun q e hq he => h2 q e (fun z => by rw [z, ha] at he; cases he) (h q e hq he)
theorem LI0 {Γ : Gm} {f : Hm} {a : Nat} {mo : Int32} (ha : f a = some (eR 0 [.int mo, .ref (gE Γ), .int 0])) (hE : f (gE Γ) = some (eO Γ 0 (fun _ => none))) (L : Nat → Nat) : LI Γ f a (gE Γ) 0 0 L := ⟨⟨mo, ha⟩, ⟨_, hE, fun i hi => absurd hi (Nat.not_lt_zero _), fun _ _ => rfl⟩, Nat.le_refl _, Or.inl ⟨rfl, rfl⟩⟩
theorem CA.kps {ks : Nat → Bool} {Γ : Gm} {f f' : Hm} {c sl n : Nat} {en : Nat → Nat} {E : Nat → EV} {cn rm us : Int32} (h : CA Γ f c sl n en E cn rm us) (h1 : ks 1 = true) (h2 : ks 2 = true) (h101 : ks 101 = true) (hf : hm_kd ks Γ f f') : CA Γ f' c sl n en E cn rm us := by
  obtain ⟨g1, ⟨g, g2, g3⟩, g4, g5⟩ := h
  exact ⟨hf _ _ g1 h1, ⟨g, hf _ _ g2 (by rw [kd_N]; exact h101), g3⟩, fun i hi => hf _ _ (g4 i hi) h2, g5⟩
theorem CA.apart {Γ : Gm} {f f' : Hm} {c sl n c1 : Nat} {en : Nat → Nat} {E : Nat → EV} {cn rm us : Int32} {fs : List Value} (h : CA Γ f c sl n en E cn rm us) (hf : hm_k (fun q => q = c1) f f') (h1 : f c1 = some (eR 1 fs)) (hne : c ≠ c1) : CA Γ f' c sl n en E cn rm us := by
  obtain ⟨g, hg, -⟩ := h.2.1
  exact h.kp hf hne (a_ne hg h1) (fun i hi => r_ne (h.2.2.1 i hi) h1 (by decide))
set_option maxHeartbeats 4000000 in
set_option maxRecDepth 100000 in
theorem c_X7_init (Γ : Gm) (l : Launch) (x0 : Nat) (f : Hm) (hx0 : f x0 = some (eR 7 [.null, .null, .null, .null, .null, .null, .int 0, .long 0, .long 0, .long 0, .long 0, .long 0])) : Ct Γ l yX7_init cX7_init 1 (none : Option Jvm.ClassFile.FieldType) 5 140 1060 [.ref x0] f (fun v f' => v = none ∧ CW Γ f' x0 ((fun _ => 0)) E0 0 0 0 0 0 0 ((fun _ => 0)) 0 gs0 0 ts0 3 0 0 24 ∧ hm_k (fun q => q = x0) f f') := by
  refine Ct_of (by decide +kernel) (Nat.le_of_ble_eq_true rfl) ?_
  intro p e s m args below meth c hx hb hr hml hown hin hlocks hts hH hO hK ls hl
  have hl : lv_has ls 1 [(0, .ref x0)] := hl
  have hS : va_S (gA Γ) s.heap s.heap [] := va_S.rf
  have kk0 : hm_k (fun q => q = x0) f f := hm_k.rf
  refine lv_aload_n hx hb dX7_init_0 rfl (lv_at hl 0 rfl) ?_
  refine W.objInit hx hb hown (hts _ q1_47) (hts _ q1_48) (hts _ q1_49) rfl (by rw [hml]; exact hl.1) rfl dX7_init_1 (Nat.le_of_ble_eq_true rfl) (Nat.le_of_ble_eq_true rfl) ?_
  refine W.eq (g2 := F0 m 4 ls []) rfl ?_
  refine lv_aload_n hx hb dX7_init_4 rfl (lv_at hl 0 rfl) ?_
  refine hm_new hx hb hts inJx4a65c tyJx4a65c tyJx4a65c_ok hown q1_50 q1_51 q1_4 hK hO hS hH (ci := 0) rfl (fs := [.int 0, .null, .int 0]) dfJx4a65c (Nat.le_of_ble_eq_true rfl) (Nat.le_of_ble_eq_true rfl) dX7_init_5 (fun q1 H hH hn_q1 hb_q1 hS => ?_)
  obtain ⟨f2, ef2⟩ : ∃ zz_, zz_ = hm_up f q1 (eR 0 [.int 0, .null, .int 0]) := ⟨_, rfl⟩
  have hH : hm_H Γ f2 H := by rw [ef2]; exact hH
  have h3 : f2 q1 = some (eR 0 [.int 0, .null, .int 0]) := by rw [ef2]; exact hm_us
  have h4 : f2 x0 = some (eR 7 [.null, .null, .null, .null, .null, .null, .int 0, .long 0, .long 0, .long 0, .long 0, .long 0]) := by rw [ef2]; exact (hm_un (hm_nn hx0 hn_q1)).trans hx0
  have nn5 : f q1 = none := hm_k.back kk0 hx0 hn_q1
  have kk6 : hm_k (fun q => q = x0) f f2 := by rw [ef2]; exact kk0.upG hn_q1
  refine lv_dup hx hb dX7_init_8 rfl ?_
  refine hm_callI (rest := [.ref q1, .ref x0]) (k := 3) q1_52 q1_53 q1_4 q1_54 nm_Jx4a65c_init_da8c8 rfl rfl hx hb hml hown hts hK hO hS hH hl.1 (c_L_init Γ l q1 f2 h3) ⟨Nat.le_of_ble_eq_true rfl, Nat.le_of_ble_eq_true rfl⟩ ⟨Nat.le_of_ble_eq_true rfl, Nat.le_of_ble_eq_true rfl⟩ rfl (Nat.le_of_ble_eq_true rfl) dX7_init_9 (fun v_ fl7 H locs hp_ hH hS => ?_)
  obtain ⟨rfl, efl7⟩ := hp_
  refine W.eq (g2 := F0 m 12 ls [.ref q1, .ref x0]) rfl ?_
  have h8 : fl7 x0 = some (eR 7 [.null, .null, .null, .null, .null, .null, .int 0, .long 0, .long 0, .long 0, .long 0, .long 0]) := by rw [efl7]; exact (hm_un (hm_ne h4 h3 (fun q => by injection q with q; injection q with q; cases q))).trans h4
  have h9 : fl7 q1 = some (eR 0 [.int 0, .ref ((gE Γ)), .int 0]) := by rw [efl7]; exact hm_us
  have kk10 : hm_k (fun q => q = x0) f fl7 := by rw [efl7]; exact kk6.upN nn5
  refine pF_X7_10 hx hb hts hown hin hK hO hS hH h8 rfl (Nat.le_of_ble_eq_true rfl) rfl dX7_init_12 (fun H locs hH hS => ?_)
  obtain ⟨f11, ef11⟩ : ∃ zz_, zz_ = hm_up fl7 x0 (eR 7 [.ref q1, .null, .null, .null, .null, .null, .int 0, .long 0, .long 0, .long 0, .long 0, .long 0]) := ⟨_, rfl⟩
  have hH : hm_H Γ f11 H := by rw [ef11]; exact hH
  have h12 : f11 x0 = some (eR 7 [.ref q1, .null, .null, .null, .null, .null, .int 0, .long 0, .long 0, .long 0, .long 0, .long 0]) := by rw [ef11]; exact hm_us
  have h13 : f11 q1 = some (eR 0 [.int 0, .ref ((gE Γ)), .int 0]) := by rw [ef11]; exact (hm_un (hm_ne h9 h8 (fun q => by injection q with q; injection q with q; cases q))).trans h9
  have kk14 : hm_k (fun q => q = x0) f f11 := by rw [ef11]; exact kk10.up rfl
  refine lv_aload_n hx hb dX7_init_15 rfl (lv_at hl 0 rfl) ?_
  refine hm_new hx hb hts inJx4a65c tyJx4a65c tyJx4a65c_ok hown q1_50 q1_51 q1_4 hK hO hS hH (ci := 0) rfl (fs := [.int 0, .null, .int 0]) dfJx4a65c (Nat.le_of_ble_eq_true rfl) (Nat.le_of_ble_eq_true rfl) dX7_init_16 (fun q15 H hH hn_q15 hb_q15 hS => ?_)
  obtain ⟨f16, ef16⟩ : ∃ zz_, zz_ = hm_up f11 q15 (eR 0 [.int 0, .null, .int 0]) := ⟨_, rfl⟩
  have hH : hm_H Γ f16 H := by rw [ef16]; exact hH
  have h17 : f16 q15 = some (eR 0 [.int 0, .null, .int 0]) := by rw [ef16]; exact hm_us
  have h18 : f16 x0 = some (eR 7 [.ref q1, .null, .null, .null, .null, .null, .int 0, .long 0, .long 0, .long 0, .long 0, .long 0]) := by rw [ef16]; exact (hm_un (hm_nn h12 hn_q15)).trans h12
  have h19 : f16 q1 = some (eR 0 [.int 0, .ref ((gE Γ)), .int 0]) := by rw [ef16]; exact (hm_un (hm_nn h13 hn_q15)).trans h13
  have nn20 : f q15 = none := hm_k.back kk14 h12 hn_q15
  have ds21 : q1 ≠ q15 := hm_nn h13 hn_q15
  have kk22 : hm_k (fun q => q = x0) f f16 := by rw [ef16]; exact kk14.upG hn_q15
  refine lv_dup hx hb dX7_init_19 rfl ?_
  refine hm_callI (rest := [.ref q15, .ref x0]) (k := 3) q1_52 q1_53 q1_4 q1_54 nm_Jx4a65c_init_da8c8 rfl rfl hx hb hml hown hts hK hO hS hH hl.1 (c_L_init Γ l q15 f16 h17) ⟨Nat.le_of_ble_eq_true rfl, Nat.le_of_ble_eq_true rfl⟩ ⟨Nat.le_of_ble_eq_true rfl, Nat.le_of_ble_eq_true rfl⟩ rfl (Nat.le_of_ble_eq_true rfl) dX7_init_20 (fun v_ fl23 H locs hp_ hH hS => ?_)
  obtain ⟨rfl, efl23⟩ := hp_
  refine W.eq (g2 := F0 m 23 ls [.ref q15, .ref x0]) rfl ?_
  have h24 : fl23 x0 = some (eR 7 [.ref q1, .null, .null, .null, .null, .null, .int 0, .long 0, .long 0, .long 0, .long 0, .long 0]) := by rw [efl23]; exact (hm_un (hm_ne h18 h17 (fun q => by injection q with q; injection q with q; cases q))).trans h18
  have h25 : fl23 q1 = some (eR 0 [.int 0, .ref ((gE Γ)), .int 0]) := by rw [efl23]; exact (hm_un ds21).trans h19
  have h26 : fl23 q15 = some (eR 0 [.int 0, .ref ((gE Γ)), .int 0]) := by rw [efl23]; exact hm_us
  have kk27 : hm_k (fun q => q = x0) f fl23 := by rw [efl23]; exact kk22.upN nn20
  refine pF_X7_16 hx hb hts hown hin hK hO hS hH h24 rfl (Nat.le_of_ble_eq_true rfl) rfl dX7_init_23 (fun H locs hH hS => ?_)
  obtain ⟨f28, ef28⟩ : ∃ zz_, zz_ = hm_up fl23 x0 (eR 7 [.ref q1, .ref q15, .null, .null, .null, .null, .int 0, .long 0, .long 0, .long 0, .long 0, .long 0]) := ⟨_, rfl⟩
  have hH : hm_H Γ f28 H := by rw [ef28]; exact hH
  have h29 : f28 x0 = some (eR 7 [.ref q1, .ref q15, .null, .null, .null, .null, .int 0, .long 0, .long 0, .long 0, .long 0, .long 0]) := by rw [ef28]; exact hm_us
  have h30 : f28 q1 = some (eR 0 [.int 0, .ref ((gE Γ)), .int 0]) := by rw [ef28]; exact (hm_un (hm_ne h25 h24 (fun q => by injection q with q; injection q with q; cases q))).trans h25
  have h31 : f28 q15 = some (eR 0 [.int 0, .ref ((gE Γ)), .int 0]) := by rw [ef28]; exact (hm_un (hm_ne h26 h24 (fun q => by injection q with q; injection q with q; cases q))).trans h26
  have kk32 : hm_k (fun q => q = x0) f f28 := by rw [ef28]; exact kk27.up rfl
  refine lv_aload_n hx hb dX7_init_26 rfl (lv_at hl 0 rfl) ?_
  refine hm_new hx hb hts inJx4a65c tyJx4a65c tyJx4a65c_ok hown q1_50 q1_51 q1_4 hK hO hS hH (ci := 0) rfl (fs := [.int 0, .null, .int 0]) dfJx4a65c (Nat.le_of_ble_eq_true rfl) (Nat.le_of_ble_eq_true rfl) dX7_init_27 (fun q33 H hH hn_q33 hb_q33 hS => ?_)
  obtain ⟨f34, ef34⟩ : ∃ zz_, zz_ = hm_up f28 q33 (eR 0 [.int 0, .null, .int 0]) := ⟨_, rfl⟩
  have hH : hm_H Γ f34 H := by rw [ef34]; exact hH
  have h35 : f34 q33 = some (eR 0 [.int 0, .null, .int 0]) := by rw [ef34]; exact hm_us
  have h36 : f34 x0 = some (eR 7 [.ref q1, .ref q15, .null, .null, .null, .null, .int 0, .long 0, .long 0, .long 0, .long 0, .long 0]) := by rw [ef34]; exact (hm_un (hm_nn h29 hn_q33)).trans h29
  have h37 : f34 q1 = some (eR 0 [.int 0, .ref ((gE Γ)), .int 0]) := by rw [ef34]; exact (hm_un (hm_nn h30 hn_q33)).trans h30
  have h38 : f34 q15 = some (eR 0 [.int 0, .ref ((gE Γ)), .int 0]) := by rw [ef34]; exact (hm_un (hm_nn h31 hn_q33)).trans h31
  have nn39 : f q33 = none := hm_k.back kk32 h29 hn_q33
  have ds40 : q1 ≠ q33 := hm_nn h30 hn_q33
  have ds41 : q15 ≠ q33 := hm_nn h31 hn_q33
  have kk42 : hm_k (fun q => q = x0) f f34 := by rw [ef34]; exact kk32.upG hn_q33
  refine lv_dup hx hb dX7_init_30 rfl ?_
  refine hm_callI (rest := [.ref q33, .ref x0]) (k := 3) q1_52 q1_53 q1_4 q1_54 nm_Jx4a65c_init_da8c8 rfl rfl hx hb hml hown hts hK hO hS hH hl.1 (c_L_init Γ l q33 f34 h35) ⟨Nat.le_of_ble_eq_true rfl, Nat.le_of_ble_eq_true rfl⟩ ⟨Nat.le_of_ble_eq_true rfl, Nat.le_of_ble_eq_true rfl⟩ rfl (Nat.le_of_ble_eq_true rfl) dX7_init_31 (fun v_ fl43 H locs hp_ hH hS => ?_)
  obtain ⟨rfl, efl43⟩ := hp_
  refine W.eq (g2 := F0 m 34 ls [.ref q33, .ref x0]) rfl ?_
  have h44 : fl43 x0 = some (eR 7 [.ref q1, .ref q15, .null, .null, .null, .null, .int 0, .long 0, .long 0, .long 0, .long 0, .long 0]) := by rw [efl43]; exact (hm_un (hm_ne h36 h35 (fun q => by injection q with q; injection q with q; cases q))).trans h36
  have h45 : fl43 q1 = some (eR 0 [.int 0, .ref ((gE Γ)), .int 0]) := by rw [efl43]; exact (hm_un ds40).trans h37
  have h46 : fl43 q15 = some (eR 0 [.int 0, .ref ((gE Γ)), .int 0]) := by rw [efl43]; exact (hm_un ds41).trans h38
  have h47 : fl43 q33 = some (eR 0 [.int 0, .ref ((gE Γ)), .int 0]) := by rw [efl43]; exact hm_us
  have kk48 : hm_k (fun q => q = x0) f fl43 := by rw [efl43]; exact kk42.upN nn39
  refine pF_X7_19 hx hb hts hown hin hK hO hS hH h44 rfl (Nat.le_of_ble_eq_true rfl) rfl dX7_init_34 (fun H locs hH hS => ?_)
  obtain ⟨f49, ef49⟩ : ∃ zz_, zz_ = hm_up fl43 x0 (eR 7 [.ref q1, .ref q15, .ref q33, .null, .null, .null, .int 0, .long 0, .long 0, .long 0, .long 0, .long 0]) := ⟨_, rfl⟩
  have hH : hm_H Γ f49 H := by rw [ef49]; exact hH
  have h50 : f49 x0 = some (eR 7 [.ref q1, .ref q15, .ref q33, .null, .null, .null, .int 0, .long 0, .long 0, .long 0, .long 0, .long 0]) := by rw [ef49]; exact hm_us
  have h51 : f49 q1 = some (eR 0 [.int 0, .ref ((gE Γ)), .int 0]) := by rw [ef49]; exact (hm_un (hm_ne h45 h44 (fun q => by injection q with q; injection q with q; cases q))).trans h45
  have h52 : f49 q15 = some (eR 0 [.int 0, .ref ((gE Γ)), .int 0]) := by rw [ef49]; exact (hm_un (hm_ne h46 h44 (fun q => by injection q with q; injection q with q; cases q))).trans h46
  have h53 : f49 q33 = some (eR 0 [.int 0, .ref ((gE Γ)), .int 0]) := by rw [ef49]; exact (hm_un (hm_ne h47 h44 (fun q => by injection q with q; injection q with q; cases q))).trans h47
  have kk54 : hm_k (fun q => q = x0) f f49 := by rw [ef49]; exact kk48.up rfl
  refine lv_aload_n hx hb dX7_init_37 rfl (lv_at hl 0 rfl) ?_
  refine hm_new hx hb hts inX1 tyX1 tyX1_ok hown q1_76 q1_77 q1_5 hK hO hS hH (ci := 1) rfl (fs := [.null, .int 0, .int 0, .int 0]) dfX1 (Nat.le_of_ble_eq_true rfl) (Nat.le_of_ble_eq_true rfl) dX7_init_38 (fun q55 H hH hn_q55 hb_q55 hS => ?_)
  obtain ⟨f56, ef56⟩ : ∃ zz_, zz_ = hm_up f49 q55 (eR 1 [.null, .int 0, .int 0, .int 0]) := ⟨_, rfl⟩
  have hH : hm_H Γ f56 H := by rw [ef56]; exact hH
  have h57 : f56 q55 = some (eR 1 [.null, .int 0, .int 0, .int 0]) := by rw [ef56]; exact hm_us
  have h58 : f56 x0 = some (eR 7 [.ref q1, .ref q15, .ref q33, .null, .null, .null, .int 0, .long 0, .long 0, .long 0, .long 0, .long 0]) := by rw [ef56]; exact (hm_un (hm_nn h50 hn_q55)).trans h50
  have h59 : f56 q1 = some (eR 0 [.int 0, .ref ((gE Γ)), .int 0]) := by rw [ef56]; exact (hm_un (hm_nn h51 hn_q55)).trans h51
  have h60 : f56 q15 = some (eR 0 [.int 0, .ref ((gE Γ)), .int 0]) := by rw [ef56]; exact (hm_un (hm_nn h52 hn_q55)).trans h52
  have h61 : f56 q33 = some (eR 0 [.int 0, .ref ((gE Γ)), .int 0]) := by rw [ef56]; exact (hm_un (hm_nn h53 hn_q55)).trans h53
  have nn62 : f q55 = none := hm_k.back kk54 h50 hn_q55
  have kk63 : hm_k (fun q => q = x0) f f56 := by rw [ef56]; exact kk54.upG hn_q55
  refine lv_dup hx hb dX7_init_41 rfl ?_
  refine lv_bipush (v := 64) hx hb dX7_init_42 (by decide) ?_
  refine hm_callI (rest := [.ref q55, .ref x0]) (k := 2) q1_78 q1_79 q1_5 q1_80 nm_X1_init rfl rfl hx hb hml hown hts hK hO hS hH hl.1 (c_X1_init Γ l q55 64 f56 h57 (by decide)) ⟨Nat.le_of_ble_eq_true rfl, Nat.le_of_ble_eq_true rfl⟩ ⟨Nat.le_of_ble_eq_true rfl, Nat.le_of_ble_eq_true rfl⟩ rfl (Nat.le_of_ble_eq_true rfl) dX7_init_44 (fun v_ fc64 H locs hp_ hH hS => ?_)
  obtain ⟨rfl, slA, enA, hCAA, hsnA, henA, hkcA⟩ := hp_
  refine W.eq (g2 := F0 m 47 ls [.ref q55, .ref x0]) rfl ?_
  have h65 : fc64 x0 = some (eR 7 [.ref q1, .ref q15, .ref q33, .null, .null, .null, .int 0, .long 0, .long 0, .long 0, .long 0, .long 0]) := hkcA _ _ (r_ne h58 h57 (by decide)) h58
  have h66 : fc64 q1 = some (eR 0 [.int 0, .ref ((gE Γ)), .int 0]) := hkcA _ _ (r_ne h59 h57 (by decide)) h59
  have h67 : fc64 q15 = some (eR 0 [.int 0, .ref ((gE Γ)), .int 0]) := hkcA _ _ (r_ne h60 h57 (by decide)) h60
  have h68 : fc64 q33 = some (eR 0 [.int 0, .ref ((gE Γ)), .int 0]) := hkcA _ _ (r_ne h61 h57 (by decide)) h61
  have kk69 : hm_k (fun q => q = x0) f fc64 := hm_k.trF kk63 hkcA nn62
  have hDA : CA Γ fc64 q55 slA 64 enA E0 0 24 0 := hCAA
  refine pF_X7_27 hx hb hts hown hin hK hO hS hH h65 rfl (Nat.le_of_ble_eq_true rfl) rfl dX7_init_47 (fun H locs hH hS => ?_)
  obtain ⟨f70, ef70⟩ : ∃ zz_, zz_ = hm_up fc64 x0 (eR 7 [.ref q1, .ref q15, .ref q33, .ref q55, .null, .null, .int 0, .long 0, .long 0, .long 0, .long 0, .long 0]) := ⟨_, rfl⟩
  have hH : hm_H Γ f70 H := by rw [ef70]; exact hH
  have h71 : f70 x0 = some (eR 7 [.ref q1, .ref q15, .ref q33, .ref q55, .null, .null, .int 0, .long 0, .long 0, .long 0, .long 0, .long 0]) := by rw [ef70]; exact hm_us
  have h72 : f70 q1 = some (eR 0 [.int 0, .ref ((gE Γ)), .int 0]) := by rw [ef70]; exact (hm_un (hm_ne h66 h65 (fun q => by injection q with q; injection q with q; cases q))).trans h66
  have h73 : f70 q15 = some (eR 0 [.int 0, .ref ((gE Γ)), .int 0]) := by rw [ef70]; exact (hm_un (hm_ne h67 h65 (fun q => by injection q with q; injection q with q; cases q))).trans h67
  have h74 : f70 q33 = some (eR 0 [.int 0, .ref ((gE Γ)), .int 0]) := by rw [ef70]; exact (hm_un (hm_ne h68 h65 (fun q => by injection q with q; injection q with q; cases q))).trans h68
  have kk75 : hm_k (fun q => q = x0) f f70 := by rw [ef70]; exact kk69.up rfl
  have hC76 : CA Γ f70 q55 slA 64 enA E0 0 24 0 := by rw [ef70]; exact hDA.kps rfl rfl rfl (hm_kd.up h65 rfl : hm_kd (kX [7]) Γ _ _)
  refine lv_aload_n hx hb dX7_init_50 rfl (lv_at hl 0 rfl) ?_
  refine hm_new hx hb hts inX5 tyX5 tyX5_ok hown q1_142 q1_143 q1_8 hK hO hS hH (ci := 5) rfl (fs := [.null, .int 0, .int 0, .int 0]) dfX5 (Nat.le_of_ble_eq_true rfl) (Nat.le_of_ble_eq_true rfl) dX7_init_51 (fun q77 H hH hn_q77 hb_q77 hS => ?_)
  obtain ⟨f78, ef78⟩ : ∃ zz_, zz_ = hm_up f70 q77 (eR 5 [.null, .int 0, .int 0, .int 0]) := ⟨_, rfl⟩
  have hH : hm_H Γ f78 H := by rw [ef78]; exact hH
  have h79 : f78 q77 = some (eR 5 [.null, .int 0, .int 0, .int 0]) := by rw [ef78]; exact hm_us
  have h80 : f78 x0 = some (eR 7 [.ref q1, .ref q15, .ref q33, .ref q55, .null, .null, .int 0, .long 0, .long 0, .long 0, .long 0, .long 0]) := by rw [ef78]; exact (hm_un (hm_nn h71 hn_q77)).trans h71
  have h81 : f78 q1 = some (eR 0 [.int 0, .ref ((gE Γ)), .int 0]) := by rw [ef78]; exact (hm_un (hm_nn h72 hn_q77)).trans h72
  have h82 : f78 q15 = some (eR 0 [.int 0, .ref ((gE Γ)), .int 0]) := by rw [ef78]; exact (hm_un (hm_nn h73 hn_q77)).trans h73
  have h83 : f78 q33 = some (eR 0 [.int 0, .ref ((gE Γ)), .int 0]) := by rw [ef78]; exact (hm_un (hm_nn h74 hn_q77)).trans h74
  have nn84 : f q77 = none := hm_k.back kk75 h71 hn_q77
  have kk85 : hm_k (fun q => q = x0) f f78 := by rw [ef78]; exact kk75.upG hn_q77
  have hC86 : CA Γ f78 q55 slA 64 enA E0 0 24 0 := by rw [ef78]; exact hC76.kps rfl rfl rfl (hm_kd.upN hn_q77 : hm_kd (kX []) Γ _ _)
  refine lv_dup hx hb dX7_init_54 rfl ?_
  refine hm_new hx hb hts inX1 tyX1 tyX1_ok hown q1_76 q1_77 q1_5 hK hO hS hH (ci := 1) rfl (fs := [.null, .int 0, .int 0, .int 0]) dfX1 (Nat.le_of_ble_eq_true rfl) (Nat.le_of_ble_eq_true rfl) dX7_init_55 (fun q87 H hH hn_q87 hb_q87 hS => ?_)
  obtain ⟨f88, ef88⟩ : ∃ zz_, zz_ = hm_up f78 q87 (eR 1 [.null, .int 0, .int 0, .int 0]) := ⟨_, rfl⟩
  have hH : hm_H Γ f88 H := by rw [ef88]; exact hH
  have h89 : f88 q87 = some (eR 1 [.null, .int 0, .int 0, .int 0]) := by rw [ef88]; exact hm_us
  have h90 : f88 x0 = some (eR 7 [.ref q1, .ref q15, .ref q33, .ref q55, .null, .null, .int 0, .long 0, .long 0, .long 0, .long 0, .long 0]) := by rw [ef88]; exact (hm_un (hm_nn h80 hn_q87)).trans h80
  have h91 : f88 q1 = some (eR 0 [.int 0, .ref ((gE Γ)), .int 0]) := by rw [ef88]; exact (hm_un (hm_nn h81 hn_q87)).trans h81
  have h92 : f88 q15 = some (eR 0 [.int 0, .ref ((gE Γ)), .int 0]) := by rw [ef88]; exact (hm_un (hm_nn h82 hn_q87)).trans h82
  have h93 : f88 q33 = some (eR 0 [.int 0, .ref ((gE Γ)), .int 0]) := by rw [ef88]; exact (hm_un (hm_nn h83 hn_q87)).trans h83
  have h94 : f88 q77 = some (eR 5 [.null, .int 0, .int 0, .int 0]) := by rw [ef88]; exact (hm_un (hm_nn h79 hn_q87)).trans h79
  have nn95 : f q87 = none := hm_k.back kk85 h80 hn_q87
  have ds96 : q55 ≠ q87 := hm_nn hC86.1 hn_q87
  have kk97 : hm_k (fun q => q = x0) f f88 := by rw [ef88]; exact kk85.upG hn_q87
  have hC98 : CA Γ f88 q55 slA 64 enA E0 0 24 0 := by rw [ef88]; exact hC86.kps rfl rfl rfl (hm_kd.upN hn_q87 : hm_kd (kX []) Γ _ _)
  refine lv_dup hx hb dX7_init_58 rfl ?_
  refine lv_bipush (v := 64) hx hb dX7_init_59 (by decide) ?_
  refine hm_callI (rest := [.ref q87, .ref q77, .ref q77, .ref x0]) (k := 2) q1_78 q1_79 q1_5 q1_80 nm_X1_init rfl rfl hx hb hml hown hts hK hO hS hH hl.1 (c_X1_init Γ l q87 64 f88 h89 (by decide)) ⟨Nat.le_of_ble_eq_true rfl, Nat.le_of_ble_eq_true rfl⟩ ⟨Nat.le_of_ble_eq_true rfl, Nat.le_of_ble_eq_true rfl⟩ rfl (Nat.le_of_ble_eq_true rfl) dX7_init_61 (fun v_ fc99 H locs hp_ hH hS => ?_)
  obtain ⟨rfl, slB, enB, hCAB, hsnB, henB, hkcB⟩ := hp_
  refine W.eq (g2 := F0 m 64 ls [.ref q87, .ref q77, .ref q77, .ref x0]) rfl ?_
  have h100 : fc99 x0 = some (eR 7 [.ref q1, .ref q15, .ref q33, .ref q55, .null, .null, .int 0, .long 0, .long 0, .long 0, .long 0, .long 0]) := hkcB _ _ (r_ne h90 h89 (by decide)) h90
  have h101 : fc99 q1 = some (eR 0 [.int 0, .ref ((gE Γ)), .int 0]) := hkcB _ _ (r_ne h91 h89 (by decide)) h91
  have h102 : fc99 q15 = some (eR 0 [.int 0, .ref ((gE Γ)), .int 0]) := hkcB _ _ (r_ne h92 h89 (by decide)) h92
  have h103 : fc99 q33 = some (eR 0 [.int 0, .ref ((gE Γ)), .int 0]) := hkcB _ _ (r_ne h93 h89 (by decide)) h93
  have h104 : fc99 q77 = some (eR 5 [.null, .int 0, .int 0, .int 0]) := hkcB _ _ (r_ne h94 h89 (by decide)) h94
  have kk105 : hm_k (fun q => q = x0) f fc99 := hm_k.trF kk97 hkcB nn95
  have hC106 : CA Γ fc99 q55 slA 64 enA E0 0 24 0 := CA.apart hC98 hkcB h89 ds96
  have hdisAB : ∀ i j, i < 64 → j < 64 → enA i ≠ enB j := fun i j hi hj => hm_nn (hC98.2.2.1 i hi) (henB j hj)
  have hDB : CA Γ fc99 q87 slB 64 enB E0 0 24 0 := hCAB
  refine hm_callI (rest := [.ref q77, .ref x0]) (k := 1) q1_144 q1_145 q1_8 q1_146 nm_X5_init rfl rfl hx hb hml hown hts hK hO hS hH hl.1 (c_X5_init Γ l q77 q87 0 0 0 fc99 h104) ⟨Nat.le_of_ble_eq_true rfl, Nat.le_of_ble_eq_true rfl⟩ ⟨Nat.le_of_ble_eq_true rfl, Nat.le_of_ble_eq_true rfl⟩ rfl (Nat.le_of_ble_eq_true rfl) dX7_init_64 (fun v_ fl107 H locs hp_ hH hS => ?_)
  obtain ⟨rfl, efl107⟩ := hp_
  refine W.eq (g2 := F0 m 67 ls [.ref q77, .ref x0]) rfl ?_
  have h108 : fl107 x0 = some (eR 7 [.ref q1, .ref q15, .ref q33, .ref q55, .null, .null, .int 0, .long 0, .long 0, .long 0, .long 0, .long 0]) := by rw [efl107]; exact (hm_un (hm_ne h100 h104 (fun q => by injection q with q; injection q with q; cases q))).trans h100
  have h109 : fl107 q1 = some (eR 0 [.int 0, .ref ((gE Γ)), .int 0]) := by rw [efl107]; exact (hm_un (hm_ne h101 h104 (fun q => by injection q with q; injection q with q; cases q))).trans h101
  have h110 : fl107 q15 = some (eR 0 [.int 0, .ref ((gE Γ)), .int 0]) := by rw [efl107]; exact (hm_un (hm_ne h102 h104 (fun q => by injection q with q; injection q with q; cases q))).trans h102
  have h111 : fl107 q33 = some (eR 0 [.int 0, .ref ((gE Γ)), .int 0]) := by rw [efl107]; exact (hm_un (hm_ne h103 h104 (fun q => by injection q with q; injection q with q; cases q))).trans h103
  have h112 : fl107 q77 = some (eR 5 [.ref q87, .int 0, .int 0, .int ((-1))]) := by rw [efl107]; exact hm_us
  have kk113 : hm_k (fun q => q = x0) f fl107 := by rw [efl107]; exact kk105.upN nn84
  have hC114 : CA Γ fl107 q55 slA 64 enA E0 0 24 0 := by rw [efl107]; exact hC106.kps rfl rfl rfl (hm_kd.up h104 rfl : hm_kd (kX [5]) Γ _ _)
  have hC115 : CA Γ fl107 q87 slB 64 enB E0 0 24 0 := by rw [efl107]; exact hDB.kps rfl rfl rfl (hm_kd.up h104 rfl : hm_kd (kX [5]) Γ _ _)
  refine pF_X7_36 hx hb hts hown hin hK hO hS hH h108 rfl (Nat.le_of_ble_eq_true rfl) rfl dX7_init_67 (fun H locs hH hS => ?_)
  obtain ⟨f116, ef116⟩ : ∃ zz_, zz_ = hm_up fl107 x0 (eR 7 [.ref q1, .ref q15, .ref q33, .ref q55, .ref q77, .null, .int 0, .long 0, .long 0, .long 0, .long 0, .long 0]) := ⟨_, rfl⟩
  have hH : hm_H Γ f116 H := by rw [ef116]; exact hH
  have h117 : f116 x0 = some (eR 7 [.ref q1, .ref q15, .ref q33, .ref q55, .ref q77, .null, .int 0, .long 0, .long 0, .long 0, .long 0, .long 0]) := by rw [ef116]; exact hm_us
  have h118 : f116 q1 = some (eR 0 [.int 0, .ref ((gE Γ)), .int 0]) := by rw [ef116]; exact (hm_un (hm_ne h109 h108 (fun q => by injection q with q; injection q with q; cases q))).trans h109
  have h119 : f116 q15 = some (eR 0 [.int 0, .ref ((gE Γ)), .int 0]) := by rw [ef116]; exact (hm_un (hm_ne h110 h108 (fun q => by injection q with q; injection q with q; cases q))).trans h110
  have h120 : f116 q33 = some (eR 0 [.int 0, .ref ((gE Γ)), .int 0]) := by rw [ef116]; exact (hm_un (hm_ne h111 h108 (fun q => by injection q with q; injection q with q; cases q))).trans h111
  have h121 : f116 q77 = some (eR 5 [.ref q87, .int 0, .int 0, .int ((-1))]) := by rw [ef116]; exact (hm_un (hm_ne h112 h108 (fun q => by injection q with q; injection q with q; cases q))).trans h112
  have kk122 : hm_k (fun q => q = x0) f f116 := by rw [ef116]; exact kk113.up rfl
  have hC123 : CA Γ f116 q55 slA 64 enA E0 0 24 0 := by rw [ef116]; exact hC114.kps rfl rfl rfl (hm_kd.up h108 rfl : hm_kd (kX [7]) Γ _ _)
  have hC124 : CA Γ f116 q87 slB 64 enB E0 0 24 0 := by rw [ef116]; exact hC115.kps rfl rfl rfl (hm_kd.up h108 rfl : hm_kd (kX [7]) Γ _ _)
  refine lv_aload_n hx hb dX7_init_70 rfl (lv_at hl 0 rfl) ?_
  refine hm_new hx hb hts inX5 tyX5 tyX5_ok hown q1_142 q1_143 q1_8 hK hO hS hH (ci := 5) rfl (fs := [.null, .int 0, .int 0, .int 0]) dfX5 (Nat.le_of_ble_eq_true rfl) (Nat.le_of_ble_eq_true rfl) dX7_init_71 (fun q125 H hH hn_q125 hb_q125 hS => ?_)
  obtain ⟨f126, ef126⟩ : ∃ zz_, zz_ = hm_up f116 q125 (eR 5 [.null, .int 0, .int 0, .int 0]) := ⟨_, rfl⟩
  have hH : hm_H Γ f126 H := by rw [ef126]; exact hH
  have h127 : f126 q125 = some (eR 5 [.null, .int 0, .int 0, .int 0]) := by rw [ef126]; exact hm_us
  have h128 : f126 x0 = some (eR 7 [.ref q1, .ref q15, .ref q33, .ref q55, .ref q77, .null, .int 0, .long 0, .long 0, .long 0, .long 0, .long 0]) := by rw [ef126]; exact (hm_un (hm_nn h117 hn_q125)).trans h117
  have h129 : f126 q1 = some (eR 0 [.int 0, .ref ((gE Γ)), .int 0]) := by rw [ef126]; exact (hm_un (hm_nn h118 hn_q125)).trans h118
  have h130 : f126 q15 = some (eR 0 [.int 0, .ref ((gE Γ)), .int 0]) := by rw [ef126]; exact (hm_un (hm_nn h119 hn_q125)).trans h119
  have h131 : f126 q33 = some (eR 0 [.int 0, .ref ((gE Γ)), .int 0]) := by rw [ef126]; exact (hm_un (hm_nn h120 hn_q125)).trans h120
  have h132 : f126 q77 = some (eR 5 [.ref q87, .int 0, .int 0, .int ((-1))]) := by rw [ef126]; exact (hm_un (hm_nn h121 hn_q125)).trans h121
  have nn133 : f q125 = none := hm_k.back kk122 h117 hn_q125
  have ds134 : q77 ≠ q125 := hm_nn h121 hn_q125
  have kk135 : hm_k (fun q => q = x0) f f126 := by rw [ef126]; exact kk122.upG hn_q125
  have hC136 : CA Γ f126 q55 slA 64 enA E0 0 24 0 := by rw [ef126]; exact hC123.kps rfl rfl rfl (hm_kd.upN hn_q125 : hm_kd (kX []) Γ _ _)
  have hC137 : CA Γ f126 q87 slB 64 enB E0 0 24 0 := by rw [ef126]; exact hC124.kps rfl rfl rfl (hm_kd.upN hn_q125 : hm_kd (kX []) Γ _ _)
  refine lv_dup hx hb dX7_init_74 rfl ?_
  refine hm_new hx hb hts inX1 tyX1 tyX1_ok hown q1_76 q1_77 q1_5 hK hO hS hH (ci := 1) rfl (fs := [.null, .int 0, .int 0, .int 0]) dfX1 (Nat.le_of_ble_eq_true rfl) (Nat.le_of_ble_eq_true rfl) dX7_init_75 (fun q138 H hH hn_q138 hb_q138 hS => ?_)
  obtain ⟨f139, ef139⟩ : ∃ zz_, zz_ = hm_up f126 q138 (eR 1 [.null, .int 0, .int 0, .int 0]) := ⟨_, rfl⟩
  have hH : hm_H Γ f139 H := by rw [ef139]; exact hH
  have h140 : f139 q138 = some (eR 1 [.null, .int 0, .int 0, .int 0]) := by rw [ef139]; exact hm_us
  have h141 : f139 x0 = some (eR 7 [.ref q1, .ref q15, .ref q33, .ref q55, .ref q77, .null, .int 0, .long 0, .long 0, .long 0, .long 0, .long 0]) := by rw [ef139]; exact (hm_un (hm_nn h128 hn_q138)).trans h128
  have h142 : f139 q1 = some (eR 0 [.int 0, .ref ((gE Γ)), .int 0]) := by rw [ef139]; exact (hm_un (hm_nn h129 hn_q138)).trans h129
  have h143 : f139 q15 = some (eR 0 [.int 0, .ref ((gE Γ)), .int 0]) := by rw [ef139]; exact (hm_un (hm_nn h130 hn_q138)).trans h130
  have h144 : f139 q33 = some (eR 0 [.int 0, .ref ((gE Γ)), .int 0]) := by rw [ef139]; exact (hm_un (hm_nn h131 hn_q138)).trans h131
  have h145 : f139 q77 = some (eR 5 [.ref q87, .int 0, .int 0, .int ((-1))]) := by rw [ef139]; exact (hm_un (hm_nn h132 hn_q138)).trans h132
  have h146 : f139 q125 = some (eR 5 [.null, .int 0, .int 0, .int 0]) := by rw [ef139]; exact (hm_un (hm_nn h127 hn_q138)).trans h127
  have nn147 : f q138 = none := hm_k.back kk135 h128 hn_q138
  have ds148 : q55 ≠ q138 := hm_nn hC136.1 hn_q138
  have ds149 : q87 ≠ q138 := hm_nn hC137.1 hn_q138
  have kk150 : hm_k (fun q => q = x0) f f139 := by rw [ef139]; exact kk135.upG hn_q138
  have hC151 : CA Γ f139 q55 slA 64 enA E0 0 24 0 := by rw [ef139]; exact hC136.kps rfl rfl rfl (hm_kd.upN hn_q138 : hm_kd (kX []) Γ _ _)
  have hC152 : CA Γ f139 q87 slB 64 enB E0 0 24 0 := by rw [ef139]; exact hC137.kps rfl rfl rfl (hm_kd.upN hn_q138 : hm_kd (kX []) Γ _ _)
  refine lv_dup hx hb dX7_init_78 rfl ?_
  refine lv_iconst (v := 0) hx hb dX7_init_79 (by decide) ?_
  refine hm_callI (rest := [.ref q138, .ref q125, .ref q125, .ref x0]) (k := 2) q1_78 q1_79 q1_5 q1_80 nm_X1_init rfl rfl hx hb hml hown hts hK hO hS hH hl.1 (c_X1_init Γ l q138 0 f139 h140 (by decide)) ⟨Nat.le_of_ble_eq_true rfl, Nat.le_of_ble_eq_true rfl⟩ ⟨Nat.le_of_ble_eq_true rfl, Nat.le_of_ble_eq_true rfl⟩ rfl (Nat.le_of_ble_eq_true rfl) dX7_init_80 (fun v_ fc153 H locs hp_ hH hS => ?_)
  obtain ⟨rfl, slD, enD, hCAD, hsnD, henD, hkcD⟩ := hp_
  refine W.eq (g2 := F0 m 83 ls [.ref q138, .ref q125, .ref q125, .ref x0]) rfl ?_
  have h154 : fc153 x0 = some (eR 7 [.ref q1, .ref q15, .ref q33, .ref q55, .ref q77, .null, .int 0, .long 0, .long 0, .long 0, .long 0, .long 0]) := hkcD _ _ (r_ne h141 h140 (by decide)) h141
  have h155 : fc153 q1 = some (eR 0 [.int 0, .ref ((gE Γ)), .int 0]) := hkcD _ _ (r_ne h142 h140 (by decide)) h142
  have h156 : fc153 q15 = some (eR 0 [.int 0, .ref ((gE Γ)), .int 0]) := hkcD _ _ (r_ne h143 h140 (by decide)) h143
  have h157 : fc153 q33 = some (eR 0 [.int 0, .ref ((gE Γ)), .int 0]) := hkcD _ _ (r_ne h144 h140 (by decide)) h144
  have h158 : fc153 q77 = some (eR 5 [.ref q87, .int 0, .int 0, .int ((-1))]) := hkcD _ _ (r_ne h145 h140 (by decide)) h145
  have h159 : fc153 q125 = some (eR 5 [.null, .int 0, .int 0, .int 0]) := hkcD _ _ (r_ne h146 h140 (by decide)) h146
  have kk160 : hm_k (fun q => q = x0) f fc153 := hm_k.trF kk150 hkcD nn147
  have hC161 : CA Γ fc153 q55 slA 64 enA E0 0 24 0 := CA.apart hC151 hkcD h140 ds148
  have hC162 : CA Γ fc153 q87 slB 64 enB E0 0 24 0 := CA.apart hC152 hkcD h140 ds149
  have hDD : CA Γ fc153 q138 slD 0 enD E0 0 24 0 := hCAD
  refine hm_callI (rest := [.ref q125, .ref x0]) (k := 1) q1_144 q1_145 q1_8 q1_146 nm_X5_init rfl rfl hx hb hml hown hts hK hO hS hH hl.1 (c_X5_init Γ l q125 q138 0 0 0 fc153 h159) ⟨Nat.le_of_ble_eq_true rfl, Nat.le_of_ble_eq_true rfl⟩ ⟨Nat.le_of_ble_eq_true rfl, Nat.le_of_ble_eq_true rfl⟩ rfl (Nat.le_of_ble_eq_true rfl) dX7_init_83 (fun v_ fl163 H locs hp_ hH hS => ?_)
  obtain ⟨rfl, efl163⟩ := hp_
  refine W.eq (g2 := F0 m 86 ls [.ref q125, .ref x0]) rfl ?_
  have h164 : fl163 x0 = some (eR 7 [.ref q1, .ref q15, .ref q33, .ref q55, .ref q77, .null, .int 0, .long 0, .long 0, .long 0, .long 0, .long 0]) := by rw [efl163]; exact (hm_un (hm_ne h154 h159 (fun q => by injection q with q; injection q with q; cases q))).trans h154
  have h165 : fl163 q1 = some (eR 0 [.int 0, .ref ((gE Γ)), .int 0]) := by rw [efl163]; exact (hm_un (hm_ne h155 h159 (fun q => by injection q with q; injection q with q; cases q))).trans h155
  have h166 : fl163 q15 = some (eR 0 [.int 0, .ref ((gE Γ)), .int 0]) := by rw [efl163]; exact (hm_un (hm_ne h156 h159 (fun q => by injection q with q; injection q with q; cases q))).trans h156
  have h167 : fl163 q33 = some (eR 0 [.int 0, .ref ((gE Γ)), .int 0]) := by rw [efl163]; exact (hm_un (hm_ne h157 h159 (fun q => by injection q with q; injection q with q; cases q))).trans h157
  have h168 : fl163 q77 = some (eR 5 [.ref q87, .int 0, .int 0, .int ((-1))]) := by rw [efl163]; exact (hm_un ds134).trans h158
  have h169 : fl163 q125 = some (eR 5 [.ref q138, .int 0, .int 0, .int ((-1))]) := by rw [efl163]; exact hm_us
  have kk170 : hm_k (fun q => q = x0) f fl163 := by rw [efl163]; exact kk160.upN nn133
  have hC171 : CA Γ fl163 q55 slA 64 enA E0 0 24 0 := by rw [efl163]; exact hC161.kps rfl rfl rfl (hm_kd.up h159 rfl : hm_kd (kX [5]) Γ _ _)
  have hC172 : CA Γ fl163 q87 slB 64 enB E0 0 24 0 := by rw [efl163]; exact hC162.kps rfl rfl rfl (hm_kd.up h159 rfl : hm_kd (kX [5]) Γ _ _)
  have hC173 : CA Γ fl163 q138 slD 0 enD E0 0 24 0 := by rw [efl163]; exact hDD.kps rfl rfl rfl (hm_kd.up h159 rfl : hm_kd (kX [5]) Γ _ _)
  refine pF_X7_40 hx hb hts hown hin hK hO hS hH h164 rfl (Nat.le_of_ble_eq_true rfl) rfl dX7_init_86 (fun H locs hH hS => ?_)
  obtain ⟨f174, ef174⟩ : ∃ zz_, zz_ = hm_up fl163 x0 (eR 7 [.ref q1, .ref q15, .ref q33, .ref q55, .ref q77, .ref q125, .int 0, .long 0, .long 0, .long 0, .long 0, .long 0]) := ⟨_, rfl⟩
  have hH : hm_H Γ f174 H := by rw [ef174]; exact hH
  have h175 : f174 x0 = some (eR 7 [.ref q1, .ref q15, .ref q33, .ref q55, .ref q77, .ref q125, .int 0, .long 0, .long 0, .long 0, .long 0, .long 0]) := by rw [ef174]; exact hm_us
  have h176 : f174 q1 = some (eR 0 [.int 0, .ref ((gE Γ)), .int 0]) := by rw [ef174]; exact (hm_un (hm_ne h165 h164 (fun q => by injection q with q; injection q with q; cases q))).trans h165
  have h177 : f174 q15 = some (eR 0 [.int 0, .ref ((gE Γ)), .int 0]) := by rw [ef174]; exact (hm_un (hm_ne h166 h164 (fun q => by injection q with q; injection q with q; cases q))).trans h166
  have h178 : f174 q33 = some (eR 0 [.int 0, .ref ((gE Γ)), .int 0]) := by rw [ef174]; exact (hm_un (hm_ne h167 h164 (fun q => by injection q with q; injection q with q; cases q))).trans h167
  have h179 : f174 q77 = some (eR 5 [.ref q87, .int 0, .int 0, .int ((-1))]) := by rw [ef174]; exact (hm_un (hm_ne h168 h164 (fun q => by injection q with q; injection q with q; cases q))).trans h168
  have h180 : f174 q125 = some (eR 5 [.ref q138, .int 0, .int 0, .int ((-1))]) := by rw [ef174]; exact (hm_un (hm_ne h169 h164 (fun q => by injection q with q; injection q with q; cases q))).trans h169
  have kk181 : hm_k (fun q => q = x0) f f174 := by rw [ef174]; exact kk170.up rfl
  have hC182 : CA Γ f174 q55 slA 64 enA E0 0 24 0 := by rw [ef174]; exact hC171.kps rfl rfl rfl (hm_kd.up h164 rfl : hm_kd (kX [7]) Γ _ _)
  have hC183 : CA Γ f174 q87 slB 64 enB E0 0 24 0 := by rw [ef174]; exact hC172.kps rfl rfl rfl (hm_kd.up h164 rfl : hm_kd (kX [7]) Γ _ _)
  have hC184 : CA Γ f174 q138 slD 0 enD E0 0 24 0 := by rw [ef174]; exact hC173.kps rfl rfl rfl (hm_kd.up h164 rfl : hm_kd (kX [7]) Γ _ _)
  refine lv_aload_n hx hb dX7_init_89 rfl (lv_at hl 0 rfl) ?_
  refine lv_iconst (v := 3) hx hb dX7_init_90 (by decide) ?_
  refine pf_X7_43 hx hb hts hown hK hO hS hH h175 rfl (Nat.le_of_ble_eq_true rfl) rfl dX7_init_91 (fun H locs hH hS => ?_)
  obtain ⟨f185, ef185⟩ : ∃ zz_, zz_ = hm_up f174 x0 (eR 7 [.ref q1, .ref q15, .ref q33, .ref q55, .ref q77, .ref q125, .int 3, .long 0, .long 0, .long 0, .long 0, .long 0]) := ⟨_, rfl⟩
  have hH : hm_H Γ f185 H := by rw [ef185]; exact hH
  have h186 : f185 x0 = some (eR 7 [.ref q1, .ref q15, .ref q33, .ref q55, .ref q77, .ref q125, .int 3, .long 0, .long 0, .long 0, .long 0, .long 0]) := by rw [ef185]; exact hm_us
  have h187 : f185 q1 = some (eR 0 [.int 0, .ref ((gE Γ)), .int 0]) := by rw [ef185]; exact (hm_un (hm_ne h176 h175 (fun q => by injection q with q; injection q with q; cases q))).trans h176
  have h188 : f185 q15 = some (eR 0 [.int 0, .ref ((gE Γ)), .int 0]) := by rw [ef185]; exact (hm_un (hm_ne h177 h175 (fun q => by injection q with q; injection q with q; cases q))).trans h177
  have h189 : f185 q33 = some (eR 0 [.int 0, .ref ((gE Γ)), .int 0]) := by rw [ef185]; exact (hm_un (hm_ne h178 h175 (fun q => by injection q with q; injection q with q; cases q))).trans h178
  have h190 : f185 q77 = some (eR 5 [.ref q87, .int 0, .int 0, .int ((-1))]) := by rw [ef185]; exact (hm_un (hm_ne h179 h175 (fun q => by injection q with q; injection q with q; cases q))).trans h179
  have h191 : f185 q125 = some (eR 5 [.ref q138, .int 0, .int 0, .int ((-1))]) := by rw [ef185]; exact (hm_un (hm_ne h180 h175 (fun q => by injection q with q; injection q with q; cases q))).trans h180
  have kk192 : hm_k (fun q => q = x0) f f185 := by rw [ef185]; exact kk181.up rfl
  have hC193 : CA Γ f185 q55 slA 64 enA E0 0 24 0 := by rw [ef185]; exact hC182.kps rfl rfl rfl (hm_kd.up h175 rfl : hm_kd (kX [7]) Γ _ _)
  have hC194 : CA Γ f185 q87 slB 64 enB E0 0 24 0 := by rw [ef185]; exact hC183.kps rfl rfl rfl (hm_kd.up h175 rfl : hm_kd (kX [7]) Γ _ _)
  have hC195 : CA Γ f185 q138 slD 0 enD E0 0 24 0 := by rw [ef185]; exact hC184.kps rfl rfl rfl (hm_kd.up h175 rfl : hm_kd (kX [7]) Γ _ _)
  refine lv_aload_n hx hb dX7_init_94 rfl (lv_at hl 0 rfl) ?_
  refine lv_lconst (v := 0) hx hb dX7_init_95 (by decide) ?_
  refine pf_X7_47 hx hb hts hown hK hO hS hH h186 rfl (Nat.le_of_ble_eq_true rfl) rfl dX7_init_96 (fun H locs hH hS => ?_)
  obtain ⟨f196, ef196⟩ : ∃ zz_, zz_ = hm_up f185 x0 (eR 7 [.ref q1, .ref q15, .ref q33, .ref q55, .ref q77, .ref q125, .int 3, .long 0, .long 0, .long 0, .long 0, .long 0]) := ⟨_, rfl⟩
  have hH : hm_H Γ f196 H := by rw [ef196]; exact hH
  have h197 : f196 x0 = some (eR 7 [.ref q1, .ref q15, .ref q33, .ref q55, .ref q77, .ref q125, .int 3, .long 0, .long 0, .long 0, .long 0, .long 0]) := by rw [ef196]; exact hm_us
  have h198 : f196 q1 = some (eR 0 [.int 0, .ref ((gE Γ)), .int 0]) := by rw [ef196]; exact (hm_un (hm_ne h187 h186 (fun q => by injection q with q; injection q with q; cases q))).trans h187
  have h199 : f196 q15 = some (eR 0 [.int 0, .ref ((gE Γ)), .int 0]) := by rw [ef196]; exact (hm_un (hm_ne h188 h186 (fun q => by injection q with q; injection q with q; cases q))).trans h188
  have h200 : f196 q33 = some (eR 0 [.int 0, .ref ((gE Γ)), .int 0]) := by rw [ef196]; exact (hm_un (hm_ne h189 h186 (fun q => by injection q with q; injection q with q; cases q))).trans h189
  have h201 : f196 q77 = some (eR 5 [.ref q87, .int 0, .int 0, .int ((-1))]) := by rw [ef196]; exact (hm_un (hm_ne h190 h186 (fun q => by injection q with q; injection q with q; cases q))).trans h190
  have h202 : f196 q125 = some (eR 5 [.ref q138, .int 0, .int 0, .int ((-1))]) := by rw [ef196]; exact (hm_un (hm_ne h191 h186 (fun q => by injection q with q; injection q with q; cases q))).trans h191
  have kk203 : hm_k (fun q => q = x0) f f196 := by rw [ef196]; exact kk192.up rfl
  have hC204 : CA Γ f196 q55 slA 64 enA E0 0 24 0 := by rw [ef196]; exact hC193.kps rfl rfl rfl (hm_kd.up h186 rfl : hm_kd (kX [7]) Γ _ _)
  have hC205 : CA Γ f196 q87 slB 64 enB E0 0 24 0 := by rw [ef196]; exact hC194.kps rfl rfl rfl (hm_kd.up h186 rfl : hm_kd (kX [7]) Γ _ _)
  have hC206 : CA Γ f196 q138 slD 0 enD E0 0 24 0 := by rw [ef196]; exact hC195.kps rfl rfl rfl (hm_kd.up h186 rfl : hm_kd (kX [7]) Γ _ _)
  refine lv_aload_n hx hb dX7_init_99 rfl (lv_at hl 0 rfl) ?_
  refine lv_lconst (v := 0) hx hb dX7_init_100 (by decide) ?_
  refine pf_X7_51 hx hb hts hown hK hO hS hH h197 rfl (Nat.le_of_ble_eq_true rfl) rfl dX7_init_101 (fun H locs hH hS => ?_)
  obtain ⟨f207, ef207⟩ : ∃ zz_, zz_ = hm_up f196 x0 (eR 7 [.ref q1, .ref q15, .ref q33, .ref q55, .ref q77, .ref q125, .int 3, .long 0, .long 0, .long 0, .long 0, .long 0]) := ⟨_, rfl⟩
  have hH : hm_H Γ f207 H := by rw [ef207]; exact hH
  have h208 : f207 x0 = some (eR 7 [.ref q1, .ref q15, .ref q33, .ref q55, .ref q77, .ref q125, .int 3, .long 0, .long 0, .long 0, .long 0, .long 0]) := by rw [ef207]; exact hm_us
  have h209 : f207 q1 = some (eR 0 [.int 0, .ref ((gE Γ)), .int 0]) := by rw [ef207]; exact (hm_un (hm_ne h198 h197 (fun q => by injection q with q; injection q with q; cases q))).trans h198
  have h210 : f207 q15 = some (eR 0 [.int 0, .ref ((gE Γ)), .int 0]) := by rw [ef207]; exact (hm_un (hm_ne h199 h197 (fun q => by injection q with q; injection q with q; cases q))).trans h199
  have h211 : f207 q33 = some (eR 0 [.int 0, .ref ((gE Γ)), .int 0]) := by rw [ef207]; exact (hm_un (hm_ne h200 h197 (fun q => by injection q with q; injection q with q; cases q))).trans h200
  have h212 : f207 q77 = some (eR 5 [.ref q87, .int 0, .int 0, .int ((-1))]) := by rw [ef207]; exact (hm_un (hm_ne h201 h197 (fun q => by injection q with q; injection q with q; cases q))).trans h201
  have h213 : f207 q125 = some (eR 5 [.ref q138, .int 0, .int 0, .int ((-1))]) := by rw [ef207]; exact (hm_un (hm_ne h202 h197 (fun q => by injection q with q; injection q with q; cases q))).trans h202
  have kk214 : hm_k (fun q => q = x0) f f207 := by rw [ef207]; exact kk203.up rfl
  have hC215 : CA Γ f207 q55 slA 64 enA E0 0 24 0 := by rw [ef207]; exact hC204.kps rfl rfl rfl (hm_kd.up h197 rfl : hm_kd (kX [7]) Γ _ _)
  have hC216 : CA Γ f207 q87 slB 64 enB E0 0 24 0 := by rw [ef207]; exact hC205.kps rfl rfl rfl (hm_kd.up h197 rfl : hm_kd (kX [7]) Γ _ _)
  have hC217 : CA Γ f207 q138 slD 0 enD E0 0 24 0 := by rw [ef207]; exact hC206.kps rfl rfl rfl (hm_kd.up h197 rfl : hm_kd (kX [7]) Γ _ _)
  refine lv_aload_n hx hb dX7_init_104 rfl (lv_at hl 0 rfl) ?_
  refine lv_lconst (v := 0) hx hb dX7_init_105 (by decide) ?_
  refine pf_X7_54 hx hb hts hown hK hO hS hH h208 rfl (Nat.le_of_ble_eq_true rfl) rfl dX7_init_106 (fun H locs hH hS => ?_)
  obtain ⟨f218, ef218⟩ : ∃ zz_, zz_ = hm_up f207 x0 (eR 7 [.ref q1, .ref q15, .ref q33, .ref q55, .ref q77, .ref q125, .int 3, .long 0, .long 0, .long 0, .long 0, .long 0]) := ⟨_, rfl⟩
  have hH : hm_H Γ f218 H := by rw [ef218]; exact hH
  have h219 : f218 x0 = some (eR 7 [.ref q1, .ref q15, .ref q33, .ref q55, .ref q77, .ref q125, .int 3, .long 0, .long 0, .long 0, .long 0, .long 0]) := by rw [ef218]; exact hm_us
  have h220 : f218 q1 = some (eR 0 [.int 0, .ref ((gE Γ)), .int 0]) := by rw [ef218]; exact (hm_un (hm_ne h209 h208 (fun q => by injection q with q; injection q with q; cases q))).trans h209
  have h221 : f218 q15 = some (eR 0 [.int 0, .ref ((gE Γ)), .int 0]) := by rw [ef218]; exact (hm_un (hm_ne h210 h208 (fun q => by injection q with q; injection q with q; cases q))).trans h210
  have h222 : f218 q33 = some (eR 0 [.int 0, .ref ((gE Γ)), .int 0]) := by rw [ef218]; exact (hm_un (hm_ne h211 h208 (fun q => by injection q with q; injection q with q; cases q))).trans h211
  have h223 : f218 q77 = some (eR 5 [.ref q87, .int 0, .int 0, .int ((-1))]) := by rw [ef218]; exact (hm_un (hm_ne h212 h208 (fun q => by injection q with q; injection q with q; cases q))).trans h212
  have h224 : f218 q125 = some (eR 5 [.ref q138, .int 0, .int 0, .int ((-1))]) := by rw [ef218]; exact (hm_un (hm_ne h213 h208 (fun q => by injection q with q; injection q with q; cases q))).trans h213
  have kk225 : hm_k (fun q => q = x0) f f218 := by rw [ef218]; exact kk214.up rfl
  have hC226 : CA Γ f218 q55 slA 64 enA E0 0 24 0 := by rw [ef218]; exact hC215.kps rfl rfl rfl (hm_kd.up h208 rfl : hm_kd (kX [7]) Γ _ _)
  have hC227 : CA Γ f218 q87 slB 64 enB E0 0 24 0 := by rw [ef218]; exact hC216.kps rfl rfl rfl (hm_kd.up h208 rfl : hm_kd (kX [7]) Γ _ _)
  have hC228 : CA Γ f218 q138 slD 0 enD E0 0 24 0 := by rw [ef218]; exact hC217.kps rfl rfl rfl (hm_kd.up h208 rfl : hm_kd (kX [7]) Γ _ _)
  refine lv_aload_n hx hb dX7_init_109 rfl (lv_at hl 0 rfl) ?_
  refine lv_lconst (v := 0) hx hb dX7_init_110 (by decide) ?_
  refine pf_X7_57 hx hb hts hown hK hO hS hH h219 rfl (Nat.le_of_ble_eq_true rfl) rfl dX7_init_111 (fun H locs hH hS => ?_)
  obtain ⟨f229, ef229⟩ : ∃ zz_, zz_ = hm_up f218 x0 (eR 7 [.ref q1, .ref q15, .ref q33, .ref q55, .ref q77, .ref q125, .int 3, .long 0, .long 0, .long 0, .long 0, .long 0]) := ⟨_, rfl⟩
  have hH : hm_H Γ f229 H := by rw [ef229]; exact hH
  have h230 : f229 x0 = some (eR 7 [.ref q1, .ref q15, .ref q33, .ref q55, .ref q77, .ref q125, .int 3, .long 0, .long 0, .long 0, .long 0, .long 0]) := by rw [ef229]; exact hm_us
  have h231 : f229 q1 = some (eR 0 [.int 0, .ref ((gE Γ)), .int 0]) := by rw [ef229]; exact (hm_un (hm_ne h220 h219 (fun q => by injection q with q; injection q with q; cases q))).trans h220
  have h232 : f229 q15 = some (eR 0 [.int 0, .ref ((gE Γ)), .int 0]) := by rw [ef229]; exact (hm_un (hm_ne h221 h219 (fun q => by injection q with q; injection q with q; cases q))).trans h221
  have h233 : f229 q33 = some (eR 0 [.int 0, .ref ((gE Γ)), .int 0]) := by rw [ef229]; exact (hm_un (hm_ne h222 h219 (fun q => by injection q with q; injection q with q; cases q))).trans h222
  have h234 : f229 q77 = some (eR 5 [.ref q87, .int 0, .int 0, .int ((-1))]) := by rw [ef229]; exact (hm_un (hm_ne h223 h219 (fun q => by injection q with q; injection q with q; cases q))).trans h223
  have h235 : f229 q125 = some (eR 5 [.ref q138, .int 0, .int 0, .int ((-1))]) := by rw [ef229]; exact (hm_un (hm_ne h224 h219 (fun q => by injection q with q; injection q with q; cases q))).trans h224
  have kk236 : hm_k (fun q => q = x0) f f229 := by rw [ef229]; exact kk225.up rfl
  have hC237 : CA Γ f229 q55 slA 64 enA E0 0 24 0 := by rw [ef229]; exact hC226.kps rfl rfl rfl (hm_kd.up h219 rfl : hm_kd (kX [7]) Γ _ _)
  have hC238 : CA Γ f229 q87 slB 64 enB E0 0 24 0 := by rw [ef229]; exact hC227.kps rfl rfl rfl (hm_kd.up h219 rfl : hm_kd (kX [7]) Γ _ _)
  have hC239 : CA Γ f229 q138 slD 0 enD E0 0 24 0 := by rw [ef229]; exact hC228.kps rfl rfl rfl (hm_kd.up h219 rfl : hm_kd (kX [7]) Γ _ _)
  refine lv_aload_n hx hb dX7_init_114 rfl (lv_at hl 0 rfl) ?_
  refine lv_lconst (v := 0) hx hb dX7_init_115 (by decide) ?_
  refine pf_X7_60 hx hb hts hown hK hO hS hH h230 rfl (Nat.le_of_ble_eq_true rfl) rfl dX7_init_116 (fun H locs hH hS => ?_)
  obtain ⟨f240, ef240⟩ : ∃ zz_, zz_ = hm_up f229 x0 (eR 7 [.ref q1, .ref q15, .ref q33, .ref q55, .ref q77, .ref q125, .int 3, .long 0, .long 0, .long 0, .long 0, .long 0]) := ⟨_, rfl⟩
  have hH : hm_H Γ f240 H := by rw [ef240]; exact hH
  have h241 : f240 x0 = some (eR 7 [.ref q1, .ref q15, .ref q33, .ref q55, .ref q77, .ref q125, .int 3, .long 0, .long 0, .long 0, .long 0, .long 0]) := by rw [ef240]; exact hm_us
  have h242 : f240 q1 = some (eR 0 [.int 0, .ref ((gE Γ)), .int 0]) := by rw [ef240]; exact (hm_un (hm_ne h231 h230 (fun q => by injection q with q; injection q with q; cases q))).trans h231
  have h243 : f240 q15 = some (eR 0 [.int 0, .ref ((gE Γ)), .int 0]) := by rw [ef240]; exact (hm_un (hm_ne h232 h230 (fun q => by injection q with q; injection q with q; cases q))).trans h232
  have h244 : f240 q33 = some (eR 0 [.int 0, .ref ((gE Γ)), .int 0]) := by rw [ef240]; exact (hm_un (hm_ne h233 h230 (fun q => by injection q with q; injection q with q; cases q))).trans h233
  have h245 : f240 q77 = some (eR 5 [.ref q87, .int 0, .int 0, .int ((-1))]) := by rw [ef240]; exact (hm_un (hm_ne h234 h230 (fun q => by injection q with q; injection q with q; cases q))).trans h234
  have h246 : f240 q125 = some (eR 5 [.ref q138, .int 0, .int 0, .int ((-1))]) := by rw [ef240]; exact (hm_un (hm_ne h235 h230 (fun q => by injection q with q; injection q with q; cases q))).trans h235
  have kk247 : hm_k (fun q => q = x0) f f240 := by rw [ef240]; exact kk236.up rfl
  have hC248 : CA Γ f240 q55 slA 64 enA E0 0 24 0 := by rw [ef240]; exact hC237.kps rfl rfl rfl (hm_kd.up h230 rfl : hm_kd (kX [7]) Γ _ _)
  have hC249 : CA Γ f240 q87 slB 64 enB E0 0 24 0 := by rw [ef240]; exact hC238.kps rfl rfl rfl (hm_kd.up h230 rfl : hm_kd (kX [7]) Γ _ _)
  have hC250 : CA Γ f240 q138 slD 0 enD E0 0 24 0 := by rw [ef240]; exact hC239.kps rfl rfl rfl (hm_kd.up h230 rfl : hm_kd (kX [7]) Γ _ _)
  have hend : CW Γ f240 x0 ((fun _ => 0)) E0 0 0 0 0 0 0 ((fun _ => 0)) 0 gs0 0 ts0 3 0 0 24 := ⟨_, _, _, _, _, _, ⟨h241, gE Γ, 0, fun _ => 0, gE Γ, 0, fun _ => 0, gE Γ, 0, fun _ => 0, ⟨LI0 h242 hH.2.1 _, by decide, fun i hi => absurd hi (Nat.not_lt_zero _), fun a b ha => absurd ha (Nat.not_lt_zero _)⟩, ⟨LI0 h243 hH.2.1 _, by decide, fun i hi => absurd hi (Nat.not_lt_zero _), fun a b ha => absurd ha (Nat.not_lt_zero _)⟩, ⟨LI0 h244 hH.2.1 _, by decide, fun i hi => absurd hi (Nat.not_lt_zero _)⟩, ⟨ds21, ds40, ds41⟩, (fun _ z => absurd hH.2.2 (Nat.not_lt.mpr z)), (fun _ z => absurd hH.2.2 (Nat.not_lt.mpr z)), (fun _ z => absurd hH.2.2 (Nat.not_lt.mpr z))⟩, ⟨slA, enA, q87, slB, enB, E0, 0, 24, 0, 0, 0, -1, q138, slD, hC248, hC249, h245, ⟨⟨0, 0, -1, h246⟩, enD, E0, 0, 24, 0, hC250⟩, ⟨ds96, ds148, ds149, ds134⟩, hdisAB⟩⟩
  exact hm_vret hx hb hr hlocks hS hH (⟨rfl, hend, kk247⟩) (Nat.le_of_ble_eq_true rfl) (Nat.le_of_ble_eq_true rfl) dX7_init_119
