/-! the model: setRoom -/
theorem kS_low {f : Hm} {m0 : Nat} {r : Nat → Nat} {x : Nat × List Value} {y : ClassId × vp_A} {k : Nat} (hm : f m0 = some (.inr x)) (hk : f (r k) = some (.inl y)) (hrI : rI r) (h : k < 14 ∨ 20 < k ∧ k < 28) : ¬ kS m0 r (r k) := by
  rintro (q | ⟨j, h1, h2, q⟩)
  · exact hm_ne hk hm (fun z => by cases z) q
  · exact hrI k j (by omega) (by omega) (by omega) q
theorem old_some {K : Nat → EV} {kp q : Nat} (hc : cntP (pnB K) kp ≤ q) (hq : q < kp) : ∃ o, oldM K kp = some o := by
  cases h : oldM K kp with
  | some o => exact ⟨o, rfl⟩
  | none =>
    have := cntP_all (P := pnB K) (n := kp) (fun i hi => decide_eq_true (oldM_nspec h i hi))
    omega
theorem drop_1 {K : Nat → EV} {kp n o : Nat} (h : oldM K kp = some o) : dropMK (n + 1) (K, kp) = dropMK n (setK K o (K (kp - 1)), kp - 1) := by
  show (match oldM K kp with | none => _ | some o => _) = _
  rw [h]
theorem oldM_free {K : Nat → EV} {kp o : Nat} (h : oldM K kp = some o) : (K o).2.2.2.2.2.2 = 0 := (oldM_spec h).1
set_option maxHeartbeats 4000000 in
set_option maxRecDepth 100000 in
theorem w_X8_setRoom (Γ : Gm) (l : Launch) (m0 : Nat) (r : Nat → Nat) (th : Int32) (K : Nat → EV) (kp : Nat) (ck msh msm mso : Int32) (np : Nat) (mon : Nat → Int32) (ng : Nat) (gs : Nat → GS) (nt : Nat) (ts : Nat → TR) (lim : Int32) (rf sp : Int64) (rr : Nat) (v0 : Int32) (f : Hm) (hM : MW Γ f m0 r th K kp ck msh msm mso np mon ng gs nt ts lim rf sp rr) (hnp : np ≤ 4) (hng : ng ≤ 8) (hnt : nt ≤ 60) (hr1 : 1 ≤ rr) (hrr : rr ≤ 64) (hkr : kp ≤ rr) (hrI : rI r) (hgs : GOK np ng gs) : Ct Γ l yX8_setRoom cX8_setRoom 2 (some .int) 3 0 0 [.ref m0, .int v0] f (mP (if inR v0 1 64 then (if decide (cntP (pnB K) kp ≤ ix v0) then 0 else 2) else 1) (nI (dropMK (kp - ix v0) (K, kp)).2) (mS m0 r) f (fun f' => MW Γ f' m0 r 0 ((dropMK (kp - ix v0) (K, kp)).1) ((dropMK (kp - ix v0) (K, kp)).2) ck msh msm mso np mon ng gs nt ts lim rf sp ((ix v0))) (fun f' => MW Γ f' m0 r ((if inR v0 1 64 then (if decide (cntP (pnB K) kp ≤ ix v0) then 0 else 2) else 1)) K kp ck msh msm mso np mon ng gs nt ts lim rf sp rr)) := by
  refine Ct_of (by decide +kernel) (Nat.le_of_ble_eq_true rfl) ?_
  intro p e s m args below meth c hx hb hr hml hown hin hlocks hts hH hO hK ls hl
  have hl : lv_has ls 2 [(0, .ref m0), (1, .int v0)] := hl
  have hS : va_S (gA Γ) s.heap s.heap [] := va_S.rf
  obtain ⟨⟨dz, gd, hih, mih, fh, hm0⟩, hR⟩ := id hM
  obtain ⟨⟨hk0, hk1, hk2, hk3, hk4, hk5, hk6⟩, ⟨pb, pz, pd, pn, pe, ph, pg, hp0, hp1, hp2, hp3, hp4, hp5, hp6⟩, h0, ⟨hg1, hg2, hg3, hg4, hg5, hg6, hg7, hg8, hg9⟩, ht10, ht11, ht12, ht13⟩ := id hR
  refine lv_aload_n hx hb dX8_setRoom_0 rfl (lv_at hl 0 rfl) ?_
  refine lv_iload_n hx hb dX8_setRoom_1 rfl (lv_at hl 1 rfl) ?_
  refine lv_iconst (v := 1) hx hb dX8_setRoom_2 (by decide) ?_
  refine lv_icmp_lt (tgt := 16) hx hb dX8_setRoom_3 (by decide) (fun c1 => ?_) (fun c1 => ?_)
  · refine lv_iconst (v := 0) hx hb dX8_setRoom_16 (by decide) ?_
    refine lv_iconst (v := 1) hx hb dX8_setRoom_17 (by decide) ?_
    have hb2 : (inR v0 1 64) = false := (by unfold inR; rw [decide_eq_false (Int32.not_le.mpr c1)]; rfl)
    refine W.eq (g2 := F0 m 18 ls [.int 1, .int (bI (inR v0 1 64)), .ref m0]) (by rw [hb2]; rfl) ?_
    refine hm_callV (rest := []) (k := 1) q5_119 q5_121 q1_9 q5_122 q0_17 rfl nm_X8_no rfl hx hb hml hown hts hK hO hS hH hl.1 hm0 (c_X8_no Γ l m0 r th (nI np) (nI ng) (nI nt) (nI kp) (nI rr) ck lim dz gd hih mih fh msh msm mso sp rf (inR v0 1 64) 1 f hm0) ⟨Nat.le_of_ble_eq_true rfl, Nat.le_of_ble_eq_true rfl⟩ ⟨Nat.le_of_ble_eq_true rfl, Nat.le_of_ble_eq_true rfl⟩ rfl (Nat.le_of_ble_eq_true rfl) dX8_setRoom_18 (fun v_ fn3 H locs hp_ hH hS => ?_)
    obtain ⟨rfl, efn3⟩ := hp_
    rw [hb2] at efn3
    refine W.eq (g2 := F0 m 21 ls [.int 1]) (by rw [hb2]; rfl) ?_
    have hm4 : fn3 m0 = some (eM r 1 (nI np) (nI ng) (nI nt) (nI kp) (nI rr) ck lim dz gd hih mih fh msh msm mso sp rf) := by rw [efn3]; exact hm_us
    have h5 : fn3 ((r 0)) = some (eI Γ 4 mon) := by rw [efn3]; exact (hm_un (hm_ne h0 hm0 (fun q => by cases q))).trans h0
    have h6 : fn3 ((r 1)) = some (eJ Γ 8 (fun i => b4 (gs i).2.1)) := by rw [efn3]; exact (hm_un (hm_ne hg1 hm0 (fun q => by cases q))).trans hg1
    have h7 : fn3 ((r 2)) = some (eI Γ 8 (fun i => nI (gs i).2.2.1)) := by rw [efn3]; exact (hm_un (hm_ne hg2 hm0 (fun q => by cases q))).trans hg2
    have h8 : fn3 ((r 3)) = some (eI Γ 8 (fun i => nI (gs i).1)) := by rw [efn3]; exact (hm_un (hm_ne hg3 hm0 (fun q => by cases q))).trans hg3
    have h9 : fn3 ((r 4)) = some (eI Γ 8 (fun i => (gs i).2.2.2.1)) := by rw [efn3]; exact (hm_un (hm_ne hg4 hm0 (fun q => by cases q))).trans hg4
    have h10 : fn3 ((r 5)) = some (eI Γ 8 (fun i => (gs i).2.2.2.2.1)) := by rw [efn3]; exact (hm_un (hm_ne hg5 hm0 (fun q => by cases q))).trans hg5
    have h11 : fn3 ((r 6)) = some (eI Γ 8 (fun i => (gs i).2.2.2.2.2.1)) := by rw [efn3]; exact (hm_un (hm_ne hg6 hm0 (fun q => by cases q))).trans hg6
    have h12 : fn3 ((r 7)) = some (eI Γ 8 (fun i => (gs i).2.2.2.2.2.2.1)) := by rw [efn3]; exact (hm_un (hm_ne hg7 hm0 (fun q => by cases q))).trans hg7
    have h13 : fn3 ((r 8)) = some (eI Γ 8 (fun i => (gs i).2.2.2.2.2.2.2.1)) := by rw [efn3]; exact (hm_un (hm_ne hg8 hm0 (fun q => by cases q))).trans hg8
    have h14 : fn3 ((r 9)) = some (eZ Γ 8 (fun i => bI (gs i).2.2.2.2.2.2.2.2)) := by rw [efn3]; exact (hm_un (hm_ne hg9 hm0 (fun q => by cases q))).trans hg9
    have h15 : fn3 ((r 10)) = some (eJ Γ 60 (fun i => b4 (ts i).2.1)) := by rw [efn3]; exact (hm_un (hm_ne ht10 hm0 (fun q => by cases q))).trans ht10
    have h16 : fn3 ((r 11)) = some (eI Γ 60 (fun i => nI (ts i).2.2.1)) := by rw [efn3]; exact (hm_un (hm_ne ht11 hm0 (fun q => by cases q))).trans ht11
    have h17 : fn3 ((r 12)) = some (eI Γ 60 (fun i => nI (ts i).1)) := by rw [efn3]; exact (hm_un (hm_ne ht12 hm0 (fun q => by cases q))).trans ht12
    have h18 : fn3 ((r 13)) = some (eI Γ 60 (fun i => (ts i).2.2.2)) := by rw [efn3]; exact (hm_un (hm_ne ht13 hm0 (fun q => by cases q))).trans ht13
    have h19 : fn3 ((r 14)) = some (eJ Γ 64 (fun j => (K j).1)) := by rw [efn3]; exact (hm_un (hm_ne hk0 hm0 (fun q => by cases q))).trans hk0
    have h20 : fn3 ((r 15)) = some (eI Γ 64 (fun j => (K j).2.1)) := by rw [efn3]; exact (hm_un (hm_ne hk1 hm0 (fun q => by cases q))).trans hk1
    have h21 : fn3 ((r 16)) = some (eI Γ 64 (fun j => (K j).2.2.1)) := by rw [efn3]; exact (hm_un (hm_ne hk2 hm0 (fun q => by cases q))).trans hk2
    have h22 : fn3 ((r 17)) = some (eI Γ 64 (fun j => (K j).2.2.2.1)) := by rw [efn3]; exact (hm_un (hm_ne hk3 hm0 (fun q => by cases q))).trans hk3
    have h23 : fn3 ((r 18)) = some (eI Γ 64 (fun j => (K j).2.2.2.2.1)) := by rw [efn3]; exact (hm_un (hm_ne hk4 hm0 (fun q => by cases q))).trans hk4
    have h24 : fn3 ((r 19)) = some (eI Γ 64 (fun j => (K j).2.2.2.2.2.1)) := by rw [efn3]; exact (hm_un (hm_ne hk5 hm0 (fun q => by cases q))).trans hk5
    have h25 : fn3 ((r 20)) = some (eI Γ 64 (fun j => (K j).2.2.2.2.2.2)) := by rw [efn3]; exact (hm_un (hm_ne hk6 hm0 (fun q => by cases q))).trans hk6
    have h26 : fn3 ((r 21)) = some (eJ Γ 6 pb) := by rw [efn3]; exact (hm_un (hm_ne hp0 hm0 (fun q => by cases q))).trans hp0
    have h27 : fn3 ((r 22)) = some (eI Γ 6 pz) := by rw [efn3]; exact (hm_un (hm_ne hp1 hm0 (fun q => by cases q))).trans hp1
    have h28 : fn3 ((r 23)) = some (eI Γ 6 pd) := by rw [efn3]; exact (hm_un (hm_ne hp2 hm0 (fun q => by cases q))).trans hp2
    have h29 : fn3 ((r 24)) = some (eI Γ 6 pn) := by rw [efn3]; exact (hm_un (hm_ne hp3 hm0 (fun q => by cases q))).trans hp3
    have h30 : fn3 ((r 25)) = some (eI Γ 6 pe) := by rw [efn3]; exact (hm_un (hm_ne hp4 hm0 (fun q => by cases q))).trans hp4
    have h31 : fn3 ((r 26)) = some (eI Γ 6 ph) := by rw [efn3]; exact (hm_un (hm_ne hp5 hm0 (fun q => by cases q))).trans hp5
    have h32 : fn3 ((r 27)) = some (eI Γ 6 pg) := by rw [efn3]; exact (hm_un (hm_ne hp6 hm0 (fun q => by cases q))).trans hp6
    refine lv_if_ne (tgt := 45) hx hb dX8_setRoom_21 (by decide) (fun _ => ?_) (fun c33 => absurd c33 (by decide))
    refine lv_iconst (v := 0) hx hb dX8_setRoom_45 (by decide) ?_
    have hfr9 : hm_fr (mS m0 r) f fn3 := by
      rw [efn3]
      exact (hm_fr.rf (S := mS m0 r)).up mS_0
    exact hm_iret hx hb hr hlocks hS hH (⟨Or.inr ⟨by rw [hb2]; exact (show (1 : Int32) ≠ 0 by decide), ⟨_, rfl⟩, by rw [hb2]; exact MW.mk hm4 ⟨⟨h19, h20, h21, h22, h23, h24, h25⟩, ⟨_, _, _, _, _, _, _, h26, h27, h28, h29, h30, h31, h32⟩, h5, ⟨h6, h7, h8, h9, h10, h11, h12, h13, h14⟩, h15, h16, h17, h18⟩⟩, hfr9.k⟩) (Nat.le_of_ble_eq_true rfl) (Nat.le_of_ble_eq_true rfl) dX8_setRoom_46
  · refine lv_iload_n hx hb dX8_setRoom_6 rfl (lv_at hl 1 rfl) ?_
    refine lv_bipush (v := 64) hx hb dX8_setRoom_7 (by decide) ?_
    refine lv_icmp_gt (tgt := 16) hx hb dX8_setRoom_9 (by decide) (fun c34 => ?_) (fun c34 => ?_)
    · refine lv_iconst (v := 0) hx hb dX8_setRoom_16 (by decide) ?_
      refine lv_iconst (v := 1) hx hb dX8_setRoom_17 (by decide) ?_
      have hb35 : (inR v0 1 64) = false := (by unfold inR; rw [decide_eq_false (Int32.not_le.mpr c34), Bool.and_false])
      refine W.eq (g2 := F0 m 18 ls [.int 1, .int (bI (inR v0 1 64)), .ref m0]) (by rw [hb35]; rfl) ?_
      refine hm_callV (rest := []) (k := 1) q5_119 q5_121 q1_9 q5_122 q0_17 rfl nm_X8_no rfl hx hb hml hown hts hK hO hS hH hl.1 hm0 (c_X8_no Γ l m0 r th (nI np) (nI ng) (nI nt) (nI kp) (nI rr) ck lim dz gd hih mih fh msh msm mso sp rf (inR v0 1 64) 1 f hm0) ⟨Nat.le_of_ble_eq_true rfl, Nat.le_of_ble_eq_true rfl⟩ ⟨Nat.le_of_ble_eq_true rfl, Nat.le_of_ble_eq_true rfl⟩ rfl (Nat.le_of_ble_eq_true rfl) dX8_setRoom_18 (fun v_ fn36 H locs hp_ hH hS => ?_)
      obtain ⟨rfl, efn36⟩ := hp_
      rw [hb35] at efn36
      refine W.eq (g2 := F0 m 21 ls [.int 1]) (by rw [hb35]; rfl) ?_
      have hm37 : fn36 m0 = some (eM r 1 (nI np) (nI ng) (nI nt) (nI kp) (nI rr) ck lim dz gd hih mih fh msh msm mso sp rf) := by rw [efn36]; exact hm_us
      have h38 : fn36 ((r 0)) = some (eI Γ 4 mon) := by rw [efn36]; exact (hm_un (hm_ne h0 hm0 (fun q => by cases q))).trans h0
      have h39 : fn36 ((r 1)) = some (eJ Γ 8 (fun i => b4 (gs i).2.1)) := by rw [efn36]; exact (hm_un (hm_ne hg1 hm0 (fun q => by cases q))).trans hg1
      have h40 : fn36 ((r 2)) = some (eI Γ 8 (fun i => nI (gs i).2.2.1)) := by rw [efn36]; exact (hm_un (hm_ne hg2 hm0 (fun q => by cases q))).trans hg2
      have h41 : fn36 ((r 3)) = some (eI Γ 8 (fun i => nI (gs i).1)) := by rw [efn36]; exact (hm_un (hm_ne hg3 hm0 (fun q => by cases q))).trans hg3
      have h42 : fn36 ((r 4)) = some (eI Γ 8 (fun i => (gs i).2.2.2.1)) := by rw [efn36]; exact (hm_un (hm_ne hg4 hm0 (fun q => by cases q))).trans hg4
      have h43 : fn36 ((r 5)) = some (eI Γ 8 (fun i => (gs i).2.2.2.2.1)) := by rw [efn36]; exact (hm_un (hm_ne hg5 hm0 (fun q => by cases q))).trans hg5
      have h44 : fn36 ((r 6)) = some (eI Γ 8 (fun i => (gs i).2.2.2.2.2.1)) := by rw [efn36]; exact (hm_un (hm_ne hg6 hm0 (fun q => by cases q))).trans hg6
      have h45 : fn36 ((r 7)) = some (eI Γ 8 (fun i => (gs i).2.2.2.2.2.2.1)) := by rw [efn36]; exact (hm_un (hm_ne hg7 hm0 (fun q => by cases q))).trans hg7
      have h46 : fn36 ((r 8)) = some (eI Γ 8 (fun i => (gs i).2.2.2.2.2.2.2.1)) := by rw [efn36]; exact (hm_un (hm_ne hg8 hm0 (fun q => by cases q))).trans hg8
      have h47 : fn36 ((r 9)) = some (eZ Γ 8 (fun i => bI (gs i).2.2.2.2.2.2.2.2)) := by rw [efn36]; exact (hm_un (hm_ne hg9 hm0 (fun q => by cases q))).trans hg9
      have h48 : fn36 ((r 10)) = some (eJ Γ 60 (fun i => b4 (ts i).2.1)) := by rw [efn36]; exact (hm_un (hm_ne ht10 hm0 (fun q => by cases q))).trans ht10
      have h49 : fn36 ((r 11)) = some (eI Γ 60 (fun i => nI (ts i).2.2.1)) := by rw [efn36]; exact (hm_un (hm_ne ht11 hm0 (fun q => by cases q))).trans ht11
      have h50 : fn36 ((r 12)) = some (eI Γ 60 (fun i => nI (ts i).1)) := by rw [efn36]; exact (hm_un (hm_ne ht12 hm0 (fun q => by cases q))).trans ht12
      have h51 : fn36 ((r 13)) = some (eI Γ 60 (fun i => (ts i).2.2.2)) := by rw [efn36]; exact (hm_un (hm_ne ht13 hm0 (fun q => by cases q))).trans ht13
      have h52 : fn36 ((r 14)) = some (eJ Γ 64 (fun j => (K j).1)) := by rw [efn36]; exact (hm_un (hm_ne hk0 hm0 (fun q => by cases q))).trans hk0
      have h53 : fn36 ((r 15)) = some (eI Γ 64 (fun j => (K j).2.1)) := by rw [efn36]; exact (hm_un (hm_ne hk1 hm0 (fun q => by cases q))).trans hk1
      have h54 : fn36 ((r 16)) = some (eI Γ 64 (fun j => (K j).2.2.1)) := by rw [efn36]; exact (hm_un (hm_ne hk2 hm0 (fun q => by cases q))).trans hk2
      have h55 : fn36 ((r 17)) = some (eI Γ 64 (fun j => (K j).2.2.2.1)) := by rw [efn36]; exact (hm_un (hm_ne hk3 hm0 (fun q => by cases q))).trans hk3
      have h56 : fn36 ((r 18)) = some (eI Γ 64 (fun j => (K j).2.2.2.2.1)) := by rw [efn36]; exact (hm_un (hm_ne hk4 hm0 (fun q => by cases q))).trans hk4
      have h57 : fn36 ((r 19)) = some (eI Γ 64 (fun j => (K j).2.2.2.2.2.1)) := by rw [efn36]; exact (hm_un (hm_ne hk5 hm0 (fun q => by cases q))).trans hk5
      have h58 : fn36 ((r 20)) = some (eI Γ 64 (fun j => (K j).2.2.2.2.2.2)) := by rw [efn36]; exact (hm_un (hm_ne hk6 hm0 (fun q => by cases q))).trans hk6
      have h59 : fn36 ((r 21)) = some (eJ Γ 6 pb) := by rw [efn36]; exact (hm_un (hm_ne hp0 hm0 (fun q => by cases q))).trans hp0
      have h60 : fn36 ((r 22)) = some (eI Γ 6 pz) := by rw [efn36]; exact (hm_un (hm_ne hp1 hm0 (fun q => by cases q))).trans hp1
      have h61 : fn36 ((r 23)) = some (eI Γ 6 pd) := by rw [efn36]; exact (hm_un (hm_ne hp2 hm0 (fun q => by cases q))).trans hp2
      have h62 : fn36 ((r 24)) = some (eI Γ 6 pn) := by rw [efn36]; exact (hm_un (hm_ne hp3 hm0 (fun q => by cases q))).trans hp3
      have h63 : fn36 ((r 25)) = some (eI Γ 6 pe) := by rw [efn36]; exact (hm_un (hm_ne hp4 hm0 (fun q => by cases q))).trans hp4
      have h64 : fn36 ((r 26)) = some (eI Γ 6 ph) := by rw [efn36]; exact (hm_un (hm_ne hp5 hm0 (fun q => by cases q))).trans hp5
      have h65 : fn36 ((r 27)) = some (eI Γ 6 pg) := by rw [efn36]; exact (hm_un (hm_ne hp6 hm0 (fun q => by cases q))).trans hp6
      refine lv_if_ne (tgt := 45) hx hb dX8_setRoom_21 (by decide) (fun _ => ?_) (fun c66 => absurd c66 (by decide))
      refine lv_iconst (v := 0) hx hb dX8_setRoom_45 (by decide) ?_
      have hfr9 : hm_fr (mS m0 r) f fn36 := by
        rw [efn36]
        exact (hm_fr.rf (S := mS m0 r)).up mS_0
      exact hm_iret hx hb hr hlocks hS hH (⟨Or.inr ⟨by rw [hb35]; exact (show (1 : Int32) ≠ 0 by decide), ⟨_, rfl⟩, by rw [hb35]; exact MW.mk hm37 ⟨⟨h52, h53, h54, h55, h56, h57, h58⟩, ⟨_, _, _, _, _, _, _, h59, h60, h61, h62, h63, h64, h65⟩, h38, ⟨h39, h40, h41, h42, h43, h44, h45, h46, h47⟩, h48, h49, h50, h51⟩⟩, hfr9.k⟩) (Nat.le_of_ble_eq_true rfl) (Nat.le_of_ble_eq_true rfl) dX8_setRoom_46
    · refine lv_iconst (v := 1) hx hb dX8_setRoom_12 (by decide) ?_
      refine lv_goto (tgt := 17) hx hb dX8_setRoom_13 (by decide) ?_
      refine lv_iconst (v := 1) hx hb dX8_setRoom_17 (by decide) ?_
      have hb67 : (inR v0 1 64) = true := (by unfold inR; rw [decide_eq_true (Int32.not_lt.mp c1), decide_eq_true (Int32.not_lt.mp c34)]; rfl)
      refine W.eq (g2 := F0 m 18 ls [.int 1, .int (bI (inR v0 1 64)), .ref m0]) (by rw [hb67]; rfl) ?_
      refine hm_callV (rest := []) (k := 1) q5_119 q5_121 q1_9 q5_122 q0_17 rfl nm_X8_no rfl hx hb hml hown hts hK hO hS hH hl.1 hm0 (c_X8_no Γ l m0 r th (nI np) (nI ng) (nI nt) (nI kp) (nI rr) ck lim dz gd hih mih fh msh msm mso sp rf (inR v0 1 64) 1 f hm0) ⟨Nat.le_of_ble_eq_true rfl, Nat.le_of_ble_eq_true rfl⟩ ⟨Nat.le_of_ble_eq_true rfl, Nat.le_of_ble_eq_true rfl⟩ rfl (Nat.le_of_ble_eq_true rfl) dX8_setRoom_18 (fun v_ fn68 H locs hp_ hH hS => ?_)
      obtain ⟨rfl, efn68⟩ := hp_
      rw [hb67] at efn68
      refine W.eq (g2 := F0 m 21 ls [.int 0]) (by rw [hb67]; rfl) ?_
      have hm69 : fn68 m0 = some (eM r 0 (nI np) (nI ng) (nI nt) (nI kp) (nI rr) ck lim dz gd hih mih fh msh msm mso sp rf) := by rw [efn68]; exact hm_us
      have h70 : fn68 ((r 0)) = some (eI Γ 4 mon) := by rw [efn68]; exact (hm_un (hm_ne h0 hm0 (fun q => by cases q))).trans h0
      have h71 : fn68 ((r 1)) = some (eJ Γ 8 (fun i => b4 (gs i).2.1)) := by rw [efn68]; exact (hm_un (hm_ne hg1 hm0 (fun q => by cases q))).trans hg1
      have h72 : fn68 ((r 2)) = some (eI Γ 8 (fun i => nI (gs i).2.2.1)) := by rw [efn68]; exact (hm_un (hm_ne hg2 hm0 (fun q => by cases q))).trans hg2
      have h73 : fn68 ((r 3)) = some (eI Γ 8 (fun i => nI (gs i).1)) := by rw [efn68]; exact (hm_un (hm_ne hg3 hm0 (fun q => by cases q))).trans hg3
      have h74 : fn68 ((r 4)) = some (eI Γ 8 (fun i => (gs i).2.2.2.1)) := by rw [efn68]; exact (hm_un (hm_ne hg4 hm0 (fun q => by cases q))).trans hg4
      have h75 : fn68 ((r 5)) = some (eI Γ 8 (fun i => (gs i).2.2.2.2.1)) := by rw [efn68]; exact (hm_un (hm_ne hg5 hm0 (fun q => by cases q))).trans hg5
      have h76 : fn68 ((r 6)) = some (eI Γ 8 (fun i => (gs i).2.2.2.2.2.1)) := by rw [efn68]; exact (hm_un (hm_ne hg6 hm0 (fun q => by cases q))).trans hg6
      have h77 : fn68 ((r 7)) = some (eI Γ 8 (fun i => (gs i).2.2.2.2.2.2.1)) := by rw [efn68]; exact (hm_un (hm_ne hg7 hm0 (fun q => by cases q))).trans hg7
      have h78 : fn68 ((r 8)) = some (eI Γ 8 (fun i => (gs i).2.2.2.2.2.2.2.1)) := by rw [efn68]; exact (hm_un (hm_ne hg8 hm0 (fun q => by cases q))).trans hg8
      have h79 : fn68 ((r 9)) = some (eZ Γ 8 (fun i => bI (gs i).2.2.2.2.2.2.2.2)) := by rw [efn68]; exact (hm_un (hm_ne hg9 hm0 (fun q => by cases q))).trans hg9
      have h80 : fn68 ((r 10)) = some (eJ Γ 60 (fun i => b4 (ts i).2.1)) := by rw [efn68]; exact (hm_un (hm_ne ht10 hm0 (fun q => by cases q))).trans ht10
      have h81 : fn68 ((r 11)) = some (eI Γ 60 (fun i => nI (ts i).2.2.1)) := by rw [efn68]; exact (hm_un (hm_ne ht11 hm0 (fun q => by cases q))).trans ht11
      have h82 : fn68 ((r 12)) = some (eI Γ 60 (fun i => nI (ts i).1)) := by rw [efn68]; exact (hm_un (hm_ne ht12 hm0 (fun q => by cases q))).trans ht12
      have h83 : fn68 ((r 13)) = some (eI Γ 60 (fun i => (ts i).2.2.2)) := by rw [efn68]; exact (hm_un (hm_ne ht13 hm0 (fun q => by cases q))).trans ht13
      have h84 : fn68 ((r 14)) = some (eJ Γ 64 (fun j => (K j).1)) := by rw [efn68]; exact (hm_un (hm_ne hk0 hm0 (fun q => by cases q))).trans hk0
      have h85 : fn68 ((r 15)) = some (eI Γ 64 (fun j => (K j).2.1)) := by rw [efn68]; exact (hm_un (hm_ne hk1 hm0 (fun q => by cases q))).trans hk1
      have h86 : fn68 ((r 16)) = some (eI Γ 64 (fun j => (K j).2.2.1)) := by rw [efn68]; exact (hm_un (hm_ne hk2 hm0 (fun q => by cases q))).trans hk2
      have h87 : fn68 ((r 17)) = some (eI Γ 64 (fun j => (K j).2.2.2.1)) := by rw [efn68]; exact (hm_un (hm_ne hk3 hm0 (fun q => by cases q))).trans hk3
      have h88 : fn68 ((r 18)) = some (eI Γ 64 (fun j => (K j).2.2.2.2.1)) := by rw [efn68]; exact (hm_un (hm_ne hk4 hm0 (fun q => by cases q))).trans hk4
      have h89 : fn68 ((r 19)) = some (eI Γ 64 (fun j => (K j).2.2.2.2.2.1)) := by rw [efn68]; exact (hm_un (hm_ne hk5 hm0 (fun q => by cases q))).trans hk5
      have h90 : fn68 ((r 20)) = some (eI Γ 64 (fun j => (K j).2.2.2.2.2.2)) := by rw [efn68]; exact (hm_un (hm_ne hk6 hm0 (fun q => by cases q))).trans hk6
      have h91 : fn68 ((r 21)) = some (eJ Γ 6 pb) := by rw [efn68]; exact (hm_un (hm_ne hp0 hm0 (fun q => by cases q))).trans hp0
      have h92 : fn68 ((r 22)) = some (eI Γ 6 pz) := by rw [efn68]; exact (hm_un (hm_ne hp1 hm0 (fun q => by cases q))).trans hp1
      have h93 : fn68 ((r 23)) = some (eI Γ 6 pd) := by rw [efn68]; exact (hm_un (hm_ne hp2 hm0 (fun q => by cases q))).trans hp2
      have h94 : fn68 ((r 24)) = some (eI Γ 6 pn) := by rw [efn68]; exact (hm_un (hm_ne hp3 hm0 (fun q => by cases q))).trans hp3
      have h95 : fn68 ((r 25)) = some (eI Γ 6 pe) := by rw [efn68]; exact (hm_un (hm_ne hp4 hm0 (fun q => by cases q))).trans hp4
      have h96 : fn68 ((r 26)) = some (eI Γ 6 ph) := by rw [efn68]; exact (hm_un (hm_ne hp5 hm0 (fun q => by cases q))).trans hp5
      have h97 : fn68 ((r 27)) = some (eI Γ 6 pg) := by rw [efn68]; exact (hm_un (hm_ne hp6 hm0 (fun q => by cases q))).trans hp6
      refine lv_if_ne (tgt := 45) hx hb dX8_setRoom_21 (by decide) (fun c98 => absurd (by decide) c98) (fun _ => ?_)
      refine lv_aload_n hx hb dX8_setRoom_24 rfl (lv_at hl 0 rfl) ?_
      refine lv_aload_n hx hb dX8_setRoom_25 rfl (lv_at hl 0 rfl) ?_
      obtain ⟨q, hq64, rfl⟩ : ∃ q, (1 ≤ q ∧ q ≤ 64) ∧ v0 = nI q := by
        obtain ⟨j, hj, e⟩ := nI_of (fun z => absurd (Int32.lt_of_lt_of_le z (by decide : (0 : Int32) ≤ 1)) c1 : ¬ v0 < 0)
        refine ⟨j, ⟨?_, ?_⟩, e⟩
        · exact (nI_leI (a := 1) (by decide) hj).mp (by rw [← e]; exact Int32.not_lt.mp c1)
        · exact (nI_leI (b := 64) hj (by decide)).mp (by rw [← e]; exact Int32.not_lt.mp c34)
      have hiq : ix (nI q) = q := ix_nI (by omega)
      refine hm_callV (rest := [.ref m0]) (k := 1) q6_9 q6_11 q1_9 q6_12 q0_31 rfl nm_X8_pins rfl hx hb hml hown hts hK hO hS hH hl.1 hm69 (c_X8_pins Γ l m0 r 0 (nI np) (nI ng) (nI nt) (nI rr) ck lim dz gd hih mih fh msh msm mso sp rf kp K fn68 hm69 ⟨h84, h85, h86, h87, h88, h89, h90⟩ (by omega)) ⟨Nat.le_of_ble_eq_true rfl, Nat.le_of_ble_eq_true rfl⟩ ⟨Nat.le_of_ble_eq_true rfl, Nat.le_of_ble_eq_true rfl⟩ rfl (Nat.le_of_ble_eq_true rfl) dX8_setRoom_26 (fun v_ f_ H locs hp_ hH hS => ?_)
      obtain ⟨rfl, ef_⟩ := hp_
      rw [ef_] at hH
      clear ef_
      refine W.eq (g2 := F0 m 29 ls [.int (nI (cntP (pnB K) kp)), .ref m0]) rfl ?_
      refine lv_iload_n hx hb dX8_setRoom_29 rfl (lv_at hl 1 rfl) ?_
      refine lv_icmp_gt (tgt := 37) hx hb dX8_setRoom_30 (by decide) (fun c99 => ?_) (fun c99 => ?_)
      · refine lv_iconst (v := 0) hx hb dX8_setRoom_37 (by decide) ?_
        refine lv_iconst (v := 2) hx hb dX8_setRoom_38 (by decide) ?_
        have hb100 : (decide (cntP (pnB K) kp ≤ q)) = false := decide_eq_false (fun z => absurd (nI_le (a := cntP (pnB K) kp) (b := q) z (by omega)) (Int32.not_le.mpr c99))
        refine W.eq (g2 := F0 m 39 ls [.int 2, .int (bI (decide (cntP (pnB K) kp ≤ q))), .ref m0]) (by rw [hb100]; rfl) ?_
        refine hm_callV (rest := []) (k := 1) q5_119 q5_121 q1_9 q5_122 q0_17 rfl nm_X8_no rfl hx hb hml hown hts hK hO hS hH hl.1 hm69 (c_X8_no Γ l m0 r 0 (nI np) (nI ng) (nI nt) (nI kp) (nI rr) ck lim dz gd hih mih fh msh msm mso sp rf (decide (cntP (pnB K) kp ≤ q)) 2 fn68 hm69) ⟨Nat.le_of_ble_eq_true rfl, Nat.le_of_ble_eq_true rfl⟩ ⟨Nat.le_of_ble_eq_true rfl, Nat.le_of_ble_eq_true rfl⟩ rfl (Nat.le_of_ble_eq_true rfl) dX8_setRoom_39 (fun v_ fn101 H locs hp_ hH hS => ?_)
        obtain ⟨rfl, efn101⟩ := hp_
        rw [hb100] at efn101
        refine W.eq (g2 := F0 m 42 ls [.int 1]) (by rw [hb100]; rfl) ?_
        have hm102 : fn101 m0 = some (eM r 2 (nI np) (nI ng) (nI nt) (nI kp) (nI rr) ck lim dz gd hih mih fh msh msm mso sp rf) := by rw [efn101]; exact hm_us
        have h103 : fn101 ((r 0)) = some (eI Γ 4 mon) := by rw [efn101]; exact (hm_un (hm_ne h70 hm69 (fun q => by cases q))).trans h70
        have h104 : fn101 ((r 1)) = some (eJ Γ 8 (fun i => b4 (gs i).2.1)) := by rw [efn101]; exact (hm_un (hm_ne h71 hm69 (fun q => by cases q))).trans h71
        have h105 : fn101 ((r 2)) = some (eI Γ 8 (fun i => nI (gs i).2.2.1)) := by rw [efn101]; exact (hm_un (hm_ne h72 hm69 (fun q => by cases q))).trans h72
        have h106 : fn101 ((r 3)) = some (eI Γ 8 (fun i => nI (gs i).1)) := by rw [efn101]; exact (hm_un (hm_ne h73 hm69 (fun q => by cases q))).trans h73
        have h107 : fn101 ((r 4)) = some (eI Γ 8 (fun i => (gs i).2.2.2.1)) := by rw [efn101]; exact (hm_un (hm_ne h74 hm69 (fun q => by cases q))).trans h74
        have h108 : fn101 ((r 5)) = some (eI Γ 8 (fun i => (gs i).2.2.2.2.1)) := by rw [efn101]; exact (hm_un (hm_ne h75 hm69 (fun q => by cases q))).trans h75
        have h109 : fn101 ((r 6)) = some (eI Γ 8 (fun i => (gs i).2.2.2.2.2.1)) := by rw [efn101]; exact (hm_un (hm_ne h76 hm69 (fun q => by cases q))).trans h76
        have h110 : fn101 ((r 7)) = some (eI Γ 8 (fun i => (gs i).2.2.2.2.2.2.1)) := by rw [efn101]; exact (hm_un (hm_ne h77 hm69 (fun q => by cases q))).trans h77
        have h111 : fn101 ((r 8)) = some (eI Γ 8 (fun i => (gs i).2.2.2.2.2.2.2.1)) := by rw [efn101]; exact (hm_un (hm_ne h78 hm69 (fun q => by cases q))).trans h78
        have h112 : fn101 ((r 9)) = some (eZ Γ 8 (fun i => bI (gs i).2.2.2.2.2.2.2.2)) := by rw [efn101]; exact (hm_un (hm_ne h79 hm69 (fun q => by cases q))).trans h79
        have h113 : fn101 ((r 10)) = some (eJ Γ 60 (fun i => b4 (ts i).2.1)) := by rw [efn101]; exact (hm_un (hm_ne h80 hm69 (fun q => by cases q))).trans h80
        have h114 : fn101 ((r 11)) = some (eI Γ 60 (fun i => nI (ts i).2.2.1)) := by rw [efn101]; exact (hm_un (hm_ne h81 hm69 (fun q => by cases q))).trans h81
        have h115 : fn101 ((r 12)) = some (eI Γ 60 (fun i => nI (ts i).1)) := by rw [efn101]; exact (hm_un (hm_ne h82 hm69 (fun q => by cases q))).trans h82
        have h116 : fn101 ((r 13)) = some (eI Γ 60 (fun i => (ts i).2.2.2)) := by rw [efn101]; exact (hm_un (hm_ne h83 hm69 (fun q => by cases q))).trans h83
        have h117 : fn101 ((r 14)) = some (eJ Γ 64 (fun j => (K j).1)) := by rw [efn101]; exact (hm_un (hm_ne h84 hm69 (fun q => by cases q))).trans h84
        have h118 : fn101 ((r 15)) = some (eI Γ 64 (fun j => (K j).2.1)) := by rw [efn101]; exact (hm_un (hm_ne h85 hm69 (fun q => by cases q))).trans h85
        have h119 : fn101 ((r 16)) = some (eI Γ 64 (fun j => (K j).2.2.1)) := by rw [efn101]; exact (hm_un (hm_ne h86 hm69 (fun q => by cases q))).trans h86
        have h120 : fn101 ((r 17)) = some (eI Γ 64 (fun j => (K j).2.2.2.1)) := by rw [efn101]; exact (hm_un (hm_ne h87 hm69 (fun q => by cases q))).trans h87
        have h121 : fn101 ((r 18)) = some (eI Γ 64 (fun j => (K j).2.2.2.2.1)) := by rw [efn101]; exact (hm_un (hm_ne h88 hm69 (fun q => by cases q))).trans h88
        have h122 : fn101 ((r 19)) = some (eI Γ 64 (fun j => (K j).2.2.2.2.2.1)) := by rw [efn101]; exact (hm_un (hm_ne h89 hm69 (fun q => by cases q))).trans h89
        have h123 : fn101 ((r 20)) = some (eI Γ 64 (fun j => (K j).2.2.2.2.2.2)) := by rw [efn101]; exact (hm_un (hm_ne h90 hm69 (fun q => by cases q))).trans h90
        have h124 : fn101 ((r 21)) = some (eJ Γ 6 pb) := by rw [efn101]; exact (hm_un (hm_ne h91 hm69 (fun q => by cases q))).trans h91
        have h125 : fn101 ((r 22)) = some (eI Γ 6 pz) := by rw [efn101]; exact (hm_un (hm_ne h92 hm69 (fun q => by cases q))).trans h92
        have h126 : fn101 ((r 23)) = some (eI Γ 6 pd) := by rw [efn101]; exact (hm_un (hm_ne h93 hm69 (fun q => by cases q))).trans h93
        have h127 : fn101 ((r 24)) = some (eI Γ 6 pn) := by rw [efn101]; exact (hm_un (hm_ne h94 hm69 (fun q => by cases q))).trans h94
        have h128 : fn101 ((r 25)) = some (eI Γ 6 pe) := by rw [efn101]; exact (hm_un (hm_ne h95 hm69 (fun q => by cases q))).trans h95
        have h129 : fn101 ((r 26)) = some (eI Γ 6 ph) := by rw [efn101]; exact (hm_un (hm_ne h96 hm69 (fun q => by cases q))).trans h96
        have h130 : fn101 ((r 27)) = some (eI Γ 6 pg) := by rw [efn101]; exact (hm_un (hm_ne h97 hm69 (fun q => by cases q))).trans h97
        refine lv_if_eq (tgt := 47) hx hb dX8_setRoom_42 (by decide) (fun c131 => absurd c131 (by decide)) (fun _ => ?_)
        refine lv_iconst (v := 0) hx hb dX8_setRoom_45 (by decide) ?_
        have hfr9 : hm_fr (mS m0 r) f fn101 := by
          rw [efn101, efn68]
          exact ((hm_fr.rf (S := mS m0 r)).up mS_0).up mS_0
        exact hm_iret hx hb hr hlocks hS hH (⟨Or.inr ⟨by rw [hb67]; rw [hiq]; rw [hb100]; exact (show (2 : Int32) ≠ 0 by decide), ⟨_, rfl⟩, by rw [hb67]; rw [hiq]; rw [hb100]; exact MW.mk hm102 ⟨⟨h117, h118, h119, h120, h121, h122, h123⟩, ⟨_, _, _, _, _, _, _, h124, h125, h126, h127, h128, h129, h130⟩, h103, ⟨h104, h105, h106, h107, h108, h109, h110, h111, h112⟩, h113, h114, h115, h116⟩⟩, hfr9.k⟩) (Nat.le_of_ble_eq_true rfl) (Nat.le_of_ble_eq_true rfl) dX8_setRoom_46
      · refine lv_iconst (v := 1) hx hb dX8_setRoom_33 (by decide) ?_
        refine lv_goto (tgt := 38) hx hb dX8_setRoom_34 (by decide) ?_
        refine lv_iconst (v := 2) hx hb dX8_setRoom_38 (by decide) ?_
        have hb132 : (decide (cntP (pnB K) kp ≤ q)) = true := decide_eq_true ((nI_leI (by have := cntP_le (pnB K) kp; omega) (by omega)).mp (Int32.not_lt.mp c99))
        refine W.eq (g2 := F0 m 39 ls [.int 2, .int (bI (decide (cntP (pnB K) kp ≤ q))), .ref m0]) (by rw [hb132]; rfl) ?_
        refine hm_callV (rest := []) (k := 1) q5_119 q5_121 q1_9 q5_122 q0_17 rfl nm_X8_no rfl hx hb hml hown hts hK hO hS hH hl.1 hm69 (c_X8_no Γ l m0 r 0 (nI np) (nI ng) (nI nt) (nI kp) (nI rr) ck lim dz gd hih mih fh msh msm mso sp rf (decide (cntP (pnB K) kp ≤ q)) 2 fn68 hm69) ⟨Nat.le_of_ble_eq_true rfl, Nat.le_of_ble_eq_true rfl⟩ ⟨Nat.le_of_ble_eq_true rfl, Nat.le_of_ble_eq_true rfl⟩ rfl (Nat.le_of_ble_eq_true rfl) dX8_setRoom_39 (fun v_ fn133 H locs hp_ hH hS => ?_)
        obtain ⟨rfl, efn133⟩ := hp_
        rw [hb132] at efn133
        refine W.eq (g2 := F0 m 42 ls [.int 0]) (by rw [hb132]; rfl) ?_
        have hm134 : fn133 m0 = some (eM r 0 (nI np) (nI ng) (nI nt) (nI kp) (nI rr) ck lim dz gd hih mih fh msh msm mso sp rf) := by rw [efn133]; exact hm_us
        have h135 : fn133 ((r 0)) = some (eI Γ 4 mon) := by rw [efn133]; exact (hm_un (hm_ne h70 hm69 (fun q => by cases q))).trans h70
        have h136 : fn133 ((r 1)) = some (eJ Γ 8 (fun i => b4 (gs i).2.1)) := by rw [efn133]; exact (hm_un (hm_ne h71 hm69 (fun q => by cases q))).trans h71
        have h137 : fn133 ((r 2)) = some (eI Γ 8 (fun i => nI (gs i).2.2.1)) := by rw [efn133]; exact (hm_un (hm_ne h72 hm69 (fun q => by cases q))).trans h72
        have h138 : fn133 ((r 3)) = some (eI Γ 8 (fun i => nI (gs i).1)) := by rw [efn133]; exact (hm_un (hm_ne h73 hm69 (fun q => by cases q))).trans h73
        have h139 : fn133 ((r 4)) = some (eI Γ 8 (fun i => (gs i).2.2.2.1)) := by rw [efn133]; exact (hm_un (hm_ne h74 hm69 (fun q => by cases q))).trans h74
        have h140 : fn133 ((r 5)) = some (eI Γ 8 (fun i => (gs i).2.2.2.2.1)) := by rw [efn133]; exact (hm_un (hm_ne h75 hm69 (fun q => by cases q))).trans h75
        have h141 : fn133 ((r 6)) = some (eI Γ 8 (fun i => (gs i).2.2.2.2.2.1)) := by rw [efn133]; exact (hm_un (hm_ne h76 hm69 (fun q => by cases q))).trans h76
        have h142 : fn133 ((r 7)) = some (eI Γ 8 (fun i => (gs i).2.2.2.2.2.2.1)) := by rw [efn133]; exact (hm_un (hm_ne h77 hm69 (fun q => by cases q))).trans h77
        have h143 : fn133 ((r 8)) = some (eI Γ 8 (fun i => (gs i).2.2.2.2.2.2.2.1)) := by rw [efn133]; exact (hm_un (hm_ne h78 hm69 (fun q => by cases q))).trans h78
        have h144 : fn133 ((r 9)) = some (eZ Γ 8 (fun i => bI (gs i).2.2.2.2.2.2.2.2)) := by rw [efn133]; exact (hm_un (hm_ne h79 hm69 (fun q => by cases q))).trans h79
        have h145 : fn133 ((r 10)) = some (eJ Γ 60 (fun i => b4 (ts i).2.1)) := by rw [efn133]; exact (hm_un (hm_ne h80 hm69 (fun q => by cases q))).trans h80
        have h146 : fn133 ((r 11)) = some (eI Γ 60 (fun i => nI (ts i).2.2.1)) := by rw [efn133]; exact (hm_un (hm_ne h81 hm69 (fun q => by cases q))).trans h81
        have h147 : fn133 ((r 12)) = some (eI Γ 60 (fun i => nI (ts i).1)) := by rw [efn133]; exact (hm_un (hm_ne h82 hm69 (fun q => by cases q))).trans h82
        have h148 : fn133 ((r 13)) = some (eI Γ 60 (fun i => (ts i).2.2.2)) := by rw [efn133]; exact (hm_un (hm_ne h83 hm69 (fun q => by cases q))).trans h83
        have h149 : fn133 ((r 14)) = some (eJ Γ 64 (fun j => (K j).1)) := by rw [efn133]; exact (hm_un (hm_ne h84 hm69 (fun q => by cases q))).trans h84
        have h150 : fn133 ((r 15)) = some (eI Γ 64 (fun j => (K j).2.1)) := by rw [efn133]; exact (hm_un (hm_ne h85 hm69 (fun q => by cases q))).trans h85
        have h151 : fn133 ((r 16)) = some (eI Γ 64 (fun j => (K j).2.2.1)) := by rw [efn133]; exact (hm_un (hm_ne h86 hm69 (fun q => by cases q))).trans h86
        have h152 : fn133 ((r 17)) = some (eI Γ 64 (fun j => (K j).2.2.2.1)) := by rw [efn133]; exact (hm_un (hm_ne h87 hm69 (fun q => by cases q))).trans h87
        have h153 : fn133 ((r 18)) = some (eI Γ 64 (fun j => (K j).2.2.2.2.1)) := by rw [efn133]; exact (hm_un (hm_ne h88 hm69 (fun q => by cases q))).trans h88
        have h154 : fn133 ((r 19)) = some (eI Γ 64 (fun j => (K j).2.2.2.2.2.1)) := by rw [efn133]; exact (hm_un (hm_ne h89 hm69 (fun q => by cases q))).trans h89
        have h155 : fn133 ((r 20)) = some (eI Γ 64 (fun j => (K j).2.2.2.2.2.2)) := by rw [efn133]; exact (hm_un (hm_ne h90 hm69 (fun q => by cases q))).trans h90
        have h156 : fn133 ((r 21)) = some (eJ Γ 6 pb) := by rw [efn133]; exact (hm_un (hm_ne h91 hm69 (fun q => by cases q))).trans h91
        have h157 : fn133 ((r 22)) = some (eI Γ 6 pz) := by rw [efn133]; exact (hm_un (hm_ne h92 hm69 (fun q => by cases q))).trans h92
        have h158 : fn133 ((r 23)) = some (eI Γ 6 pd) := by rw [efn133]; exact (hm_un (hm_ne h93 hm69 (fun q => by cases q))).trans h93
        have h159 : fn133 ((r 24)) = some (eI Γ 6 pn) := by rw [efn133]; exact (hm_un (hm_ne h94 hm69 (fun q => by cases q))).trans h94
        have h160 : fn133 ((r 25)) = some (eI Γ 6 pe) := by rw [efn133]; exact (hm_un (hm_ne h95 hm69 (fun q => by cases q))).trans h95
        have h161 : fn133 ((r 26)) = some (eI Γ 6 ph) := by rw [efn133]; exact (hm_un (hm_ne h96 hm69 (fun q => by cases q))).trans h96
        have h162 : fn133 ((r 27)) = some (eI Γ 6 pg) := by rw [efn133]; exact (hm_un (hm_ne h97 hm69 (fun q => by cases q))).trans h97
        refine lv_if_eq (tgt := 47) hx hb dX8_setRoom_42 (by decide) (fun _ => ?_) (fun c163 => absurd (by decide) c163)
        refine lv_aload_n hx hb dX8_setRoom_47 rfl (lv_at hl 0 rfl) ?_
        refine lv_iload_n hx hb dX8_setRoom_48 rfl (lv_at hl 1 rfl) ?_
        refine pf_X8_96 hx hb hts hown hK hO hS hH hm134 rfl (Nat.le_of_ble_eq_true rfl) rfl dX8_setRoom_49 (fun H locs hH hS => ?_)
        obtain ⟨f164, ef164⟩ : ∃ zz_, zz_ = hm_up fn133 m0 (eM r 0 (nI np) (nI ng) (nI nt) (nI kp) (nI q) ck lim dz gd hih mih fh msh msm mso sp rf) := ⟨_, rfl⟩
        have hH : hm_H Γ f164 H := by rw [ef164]; exact hH
        have h165 : f164 m0 = some (eM r 0 (nI np) (nI ng) (nI nt) (nI kp) (nI q) ck lim dz gd hih mih fh msh msm mso sp rf) := by rw [ef164]; exact hm_us
        have h166 : f164 ((r 0)) = some (eI Γ 4 mon) := by rw [ef164]; exact (hm_un (hm_ne h135 hm134 (fun q => by cases q))).trans h135
        have h167 : f164 ((r 1)) = some (eJ Γ 8 (fun i => b4 (gs i).2.1)) := by rw [ef164]; exact (hm_un (hm_ne h136 hm134 (fun q => by cases q))).trans h136
        have h168 : f164 ((r 2)) = some (eI Γ 8 (fun i => nI (gs i).2.2.1)) := by rw [ef164]; exact (hm_un (hm_ne h137 hm134 (fun q => by cases q))).trans h137
        have h169 : f164 ((r 3)) = some (eI Γ 8 (fun i => nI (gs i).1)) := by rw [ef164]; exact (hm_un (hm_ne h138 hm134 (fun q => by cases q))).trans h138
        have h170 : f164 ((r 4)) = some (eI Γ 8 (fun i => (gs i).2.2.2.1)) := by rw [ef164]; exact (hm_un (hm_ne h139 hm134 (fun q => by cases q))).trans h139
        have h171 : f164 ((r 5)) = some (eI Γ 8 (fun i => (gs i).2.2.2.2.1)) := by rw [ef164]; exact (hm_un (hm_ne h140 hm134 (fun q => by cases q))).trans h140
        have h172 : f164 ((r 6)) = some (eI Γ 8 (fun i => (gs i).2.2.2.2.2.1)) := by rw [ef164]; exact (hm_un (hm_ne h141 hm134 (fun q => by cases q))).trans h141
        have h173 : f164 ((r 7)) = some (eI Γ 8 (fun i => (gs i).2.2.2.2.2.2.1)) := by rw [ef164]; exact (hm_un (hm_ne h142 hm134 (fun q => by cases q))).trans h142
        have h174 : f164 ((r 8)) = some (eI Γ 8 (fun i => (gs i).2.2.2.2.2.2.2.1)) := by rw [ef164]; exact (hm_un (hm_ne h143 hm134 (fun q => by cases q))).trans h143
        have h175 : f164 ((r 9)) = some (eZ Γ 8 (fun i => bI (gs i).2.2.2.2.2.2.2.2)) := by rw [ef164]; exact (hm_un (hm_ne h144 hm134 (fun q => by cases q))).trans h144
        have h176 : f164 ((r 10)) = some (eJ Γ 60 (fun i => b4 (ts i).2.1)) := by rw [ef164]; exact (hm_un (hm_ne h145 hm134 (fun q => by cases q))).trans h145
        have h177 : f164 ((r 11)) = some (eI Γ 60 (fun i => nI (ts i).2.2.1)) := by rw [ef164]; exact (hm_un (hm_ne h146 hm134 (fun q => by cases q))).trans h146
        have h178 : f164 ((r 12)) = some (eI Γ 60 (fun i => nI (ts i).1)) := by rw [ef164]; exact (hm_un (hm_ne h147 hm134 (fun q => by cases q))).trans h147
        have h179 : f164 ((r 13)) = some (eI Γ 60 (fun i => (ts i).2.2.2)) := by rw [ef164]; exact (hm_un (hm_ne h148 hm134 (fun q => by cases q))).trans h148
        have h180 : f164 ((r 14)) = some (eJ Γ 64 (fun j => (K j).1)) := by rw [ef164]; exact (hm_un (hm_ne h149 hm134 (fun q => by cases q))).trans h149
        have h181 : f164 ((r 15)) = some (eI Γ 64 (fun j => (K j).2.1)) := by rw [ef164]; exact (hm_un (hm_ne h150 hm134 (fun q => by cases q))).trans h150
        have h182 : f164 ((r 16)) = some (eI Γ 64 (fun j => (K j).2.2.1)) := by rw [ef164]; exact (hm_un (hm_ne h151 hm134 (fun q => by cases q))).trans h151
        have h183 : f164 ((r 17)) = some (eI Γ 64 (fun j => (K j).2.2.2.1)) := by rw [ef164]; exact (hm_un (hm_ne h152 hm134 (fun q => by cases q))).trans h152
        have h184 : f164 ((r 18)) = some (eI Γ 64 (fun j => (K j).2.2.2.2.1)) := by rw [ef164]; exact (hm_un (hm_ne h153 hm134 (fun q => by cases q))).trans h153
        have h185 : f164 ((r 19)) = some (eI Γ 64 (fun j => (K j).2.2.2.2.2.1)) := by rw [ef164]; exact (hm_un (hm_ne h154 hm134 (fun q => by cases q))).trans h154
        have h186 : f164 ((r 20)) = some (eI Γ 64 (fun j => (K j).2.2.2.2.2.2)) := by rw [ef164]; exact (hm_un (hm_ne h155 hm134 (fun q => by cases q))).trans h155
        have h187 : f164 ((r 21)) = some (eJ Γ 6 pb) := by rw [ef164]; exact (hm_un (hm_ne h156 hm134 (fun q => by cases q))).trans h156
        have h188 : f164 ((r 22)) = some (eI Γ 6 pz) := by rw [ef164]; exact (hm_un (hm_ne h157 hm134 (fun q => by cases q))).trans h157
        have h189 : f164 ((r 23)) = some (eI Γ 6 pd) := by rw [ef164]; exact (hm_un (hm_ne h158 hm134 (fun q => by cases q))).trans h158
        have h190 : f164 ((r 24)) = some (eI Γ 6 pn) := by rw [ef164]; exact (hm_un (hm_ne h159 hm134 (fun q => by cases q))).trans h159
        have h191 : f164 ((r 25)) = some (eI Γ 6 pe) := by rw [ef164]; exact (hm_un (hm_ne h160 hm134 (fun q => by cases q))).trans h160
        have h192 : f164 ((r 26)) = some (eI Γ 6 ph) := by rw [ef164]; exact (hm_un (hm_ne h161 hm134 (fun q => by cases q))).trans h161
        have h193 : f164 ((r 27)) = some (eI Γ 6 pg) := by rw [ef164]; exact (hm_un (hm_ne h162 hm134 (fun q => by cases q))).trans h162
        have hfr0 : hm_fr (mS m0 r) f f164 := by
          rw [ef164, efn133, efn68]
          exact (((hm_fr.rf (S := mS m0 r)).up mS_0).up mS_0).up mS_0
        have hpc : cntP (pnB K) kp ≤ q := of_decide_eq_true hb132
        have hx0 := h166
        have hx1 := h167
        have hx2 := h168
        have hx3 := h169
        have hx4 := h170
        have hx5 := h171
        have hx6 := h172
        have hx7 := h173
        have hx8 := h174
        have hx9 := h175
        have hx10 := h176
        have hx11 := h177
        have hx12 := h178
        have hx13 := h179
        have hx21 := h187
        have hx22 := h188
        have hx23 := h189
        have hx24 := h190
        have hx25 := h191
        have hx26 := h192
        have hx27 := h193
        have hmx := h165
        have loop : ∀ (n_ k1 : Nat) (K1 : Nat → EV) (f1 : Hm), k1 - q = n_ → k1 ≤ 64 → cntP (pnB K1) k1 ≤ q → f1 m0 = some (eM r 0 (nI np) (nI ng) (nI nt) (nI k1) (nI q) ck lim dz gd hih mih fh msh msm mso sp rf) → KA Γ f1 r K1 → hm_fr (kS m0 r) f164 f1 → dropMK (kp - q) (K, kp) = dropMK n_ (K1, k1) → ∀ (H : Heap) (locs : List Loc), hm_H Γ f1 H → va_S (gA Γ) s.heap H locs → ∀ ls : Array Slot, lv_has ls 2 [(0, .ref m0), (1, .int (nI q))] → W p l e (rmk 3 0 0) s m args below meth c H locs 0 0 (MQ below (hm_Q Γ (mP (if inR (nI q) 1 64 then (if decide (cntP (pnB K) kp ≤ ix (nI q)) then 0 else 2) else 1) (nI (dropMK (kp - ix (nI q)) (K, kp)).2) (mS m0 r) f (fun f' => MW Γ f' m0 r 0 ((dropMK (kp - ix (nI q)) (K, kp)).1) ((dropMK (kp - ix (nI q)) (K, kp)).2) ck msh msm mso np mon ng gs nt ts lim rf sp ((ix (nI q)))) (fun f' => MW Γ f' m0 r ((if inR (nI q) 1 64 then (if decide (cntP (pnB K) kp ≤ ix (nI q)) then 0 else 2) else 1)) K kp ck msh msm mso np mon ng gs nt ts lim rf sp rr))) args s 0 0 (gA Γ)) (F0 m 52 ls []) := by
          intro n_
          induction n_ with
          | zero =>
            intro k1 K1 f1 hn hk64 hcn hm1 hKA1 hfr1 hdk H locs hH hS ls hl
            refine lv_aload_n hx hb dX8_setRoom_52 rfl (lv_at hl 0 rfl) ?_
            refine gf_X8_169 hx hb hts hown hK hH hm1 rfl dX8_setRoom_53 ?_
            refine lv_aload_n hx hb dX8_setRoom_56 rfl (lv_at hl 0 rfl) ?_
            refine gf_X8_96 hx hb hts hown hK hH hm1 rfl dX8_setRoom_57 ?_
            refine lv_icmp_le (tgt := 74) hx hb dX8_setRoom_60 (by decide) (fun _ => ?_) (fun c294 => absurd (nI_le (by omega) (by omega)) c294)
            refine lv_aload_n hx hb dX8_setRoom_74 rfl (lv_at hl 0 rfl) ?_
            refine gf_X8_169 hx hb hts hown hK hH hm1 rfl dX8_setRoom_75 ?_
            have hd2 : dropMK (kp - q) (K, kp) = (K1, k1) := hdk
            exact hm_iret hx hb hr hlocks hS hH (⟨Or.inl ⟨by rw [hb67, hiq, hb132]; rfl, by rw [hiq, hd2], by rw [hiq, hd2]; exact MW.mk hm1 ⟨hKA1, ⟨_, _, _, _, _, _, _, ((hfr1 _ (kS_low hmx hx21 hrI (by omega))).trans hx21), ((hfr1 _ (kS_low hmx hx22 hrI (by omega))).trans hx22), ((hfr1 _ (kS_low hmx hx23 hrI (by omega))).trans hx23), ((hfr1 _ (kS_low hmx hx24 hrI (by omega))).trans hx24), ((hfr1 _ (kS_low hmx hx25 hrI (by omega))).trans hx25), ((hfr1 _ (kS_low hmx hx26 hrI (by omega))).trans hx26), ((hfr1 _ (kS_low hmx hx27 hrI (by omega))).trans hx27)⟩, ((hfr1 _ (kS_low hmx hx0 hrI (by omega))).trans hx0), ⟨((hfr1 _ (kS_low hmx hx1 hrI (by omega))).trans hx1), ((hfr1 _ (kS_low hmx hx2 hrI (by omega))).trans hx2), ((hfr1 _ (kS_low hmx hx3 hrI (by omega))).trans hx3), ((hfr1 _ (kS_low hmx hx4 hrI (by omega))).trans hx4), ((hfr1 _ (kS_low hmx hx5 hrI (by omega))).trans hx5), ((hfr1 _ (kS_low hmx hx6 hrI (by omega))).trans hx6), ((hfr1 _ (kS_low hmx hx7 hrI (by omega))).trans hx7), ((hfr1 _ (kS_low hmx hx8 hrI (by omega))).trans hx8), ((hfr1 _ (kS_low hmx hx9 hrI (by omega))).trans hx9)⟩, ((hfr1 _ (kS_low hmx hx10 hrI (by omega))).trans hx10), ((hfr1 _ (kS_low hmx hx11 hrI (by omega))).trans hx11), ((hfr1 _ (kS_low hmx hx12 hrI (by omega))).trans hx12), ((hfr1 _ (kS_low hmx hx13 hrI (by omega))).trans hx13)⟩⟩, (hfr0.tr (hfr1.mono (fun q hq => mS_k hq))).k⟩) (Nat.le_of_ble_eq_true rfl) (Nat.le_of_ble_eq_true rfl) dX8_setRoom_78
          | succ n_ ih =>
            intro k1 K1 f1 hn hk64 hcn hm1 hKA1 hfr1 hdk H locs hH hS ls hl
            obtain ⟨o, ho⟩ := old_some hcn (by omega)
            have hok := oldM_lt ho
            refine lv_aload_n hx hb dX8_setRoom_52 rfl (lv_at hl 0 rfl) ?_
            refine gf_X8_169 hx hb hts hown hK hH hm1 rfl dX8_setRoom_53 ?_
            refine lv_aload_n hx hb dX8_setRoom_56 rfl (lv_at hl 0 rfl) ?_
            refine gf_X8_96 hx hb hts hown hK hH hm1 rfl dX8_setRoom_57 ?_
            refine lv_icmp_le (tgt := 74) hx hb dX8_setRoom_60 (by decide) (fun c394 => absurd c394 ((fun z => absurd ((nI_leI (by omega) (by omega)).mp z) (by omega)))) (fun _ => ?_)
            refine lv_aload_n hx hb dX8_setRoom_63 rfl (lv_at hl 0 rfl) ?_
            refine lv_aload_n hx hb dX8_setRoom_64 rfl (lv_at hl 0 rfl) ?_
            refine hm_callV (rest := [.ref m0]) (k := 1) q5_225 q5_227 q1_9 q5_228 q0_29 rfl nm_X8_oldest rfl hx hb hml hown hts hK hO hS hH hl.1 hm1 (c_X8_oldest Γ l m0 r 0 (nI np) (nI ng) (nI nt) (nI q) ck lim dz gd hih mih fh msh msm mso sp rf k1 K1 f1 hm1 hKA1 hk64) ⟨Nat.le_of_ble_eq_true rfl, Nat.le_of_ble_eq_true rfl⟩ ⟨Nat.le_of_ble_eq_true rfl, Nat.le_of_ble_eq_true rfl⟩ rfl (Nat.le_of_ble_eq_true rfl) dX8_setRoom_65 (fun v_ f_ H locs hp_ hH hS => ?_)
            obtain ⟨hp_, ef_⟩ := hp_
            rw [ef_] at hH
            clear ef_
            rcases hp_ with ⟨ho2, -⟩ | ⟨o2, ho2, rfl⟩
            · rw [ho] at ho2; cases ho2
            rw [ho] at ho2
            injection ho2 with ho2
            subst ho2
            refine W.eq (g2 := F0 m 68 ls [.int (nI o), .ref m0]) rfl ?_
            refine hm_callV (rest := []) (k := 1) q5_229 q5_231 q1_9 q5_232 q0_30 rfl nm_X8_drop rfl hx hb hml hown hts hK hO hS hH hl.1 hm1 (c_X8_drop Γ l m0 r 0 (nI np) (nI ng) (nI nt) (nI q) ck lim dz gd hih mih fh msh msm mso sp rf k1 K1 o f1 hm1 hKA1 hk64 hrI hok) ⟨Nat.le_of_ble_eq_true rfl, Nat.le_of_ble_eq_true rfl⟩ ⟨Nat.le_of_ble_eq_true rfl, Nat.le_of_ble_eq_true rfl⟩ rfl (Nat.le_of_ble_eq_true rfl) dX8_setRoom_68 (fun v_ f2_ H locs hp_ hH hS => ?_)
            obtain ⟨rfl, hm2, hKA2, hfr2⟩ := hp_
            refine W.eq (g2 := F0 m 71 ls []) rfl ?_
            refine lv_goto (tgt := 52) hx hb dX8_setRoom_71 (by decide) ?_
            exact ih (k1 - 1) (setK K1 o (K1 (k1 - 1))) f2_ (by omega) (by omega) (by rw [cnt_drop hok (oldM_free ho)]; exact hcn) hm2 hKA2 (hfr1.tr hfr2) (by rw [hdk, drop_1 ho]) H locs hH hS ls (lv_sub hl [0, 1] rfl)
        exact loop (kp - q) kp K f164 rfl (by omega) hpc h165 ⟨h180, h181, h182, h183, h184, h185, h186⟩ hm_fr.rf rfl H locs hH hS ls (lv_sub hl [0, 1] rfl)
