/-! the model: calls over its world -/
theorem m_4k3 (k : Nat) : 3 * nI k = nI (3 * k) := by rw [show (3 : Int32) = nI 3 from rfl, pk_mul]
set_option maxHeartbeats 4000000 in
set_option maxRecDepth 100000 in
theorem w_X8_at (Γ : Gm) (l : Launch) (m0 : Nat) (r : Nat → Nat) (th : Int32) (K : Nat → EV) (kp : Nat) (ck msh msm mso : Int32) (np : Nat) (mon : Nat → Int32) (ng : Nat) (gs : Nat → GS) (nt : Nat) (ts : Nat → TR) (lim : Int32) (rf sp : Int64) (rr : Nat) (v0 v1 v2 : Int32) (f : Hm) (hM : MW Γ f m0 r th K kp ck msh msm mso np mon ng gs nt ts lim rf sp rr) (hnp : np ≤ 4) (hng : ng ≤ 8) (hnt : nt ≤ 60) (hr1 : 1 ≤ rr) (hrr : rr ≤ 64) (hkr : kp ≤ rr) (hrI : rI r) (hgs : GOK np ng gs) : Ct Γ l yX8_at cX8_at 4 (some .int) 4 0 0 [.ref m0, .int v0, .int v1, .int v2] f (mP (if inB v0 (nI ng) then (if (inB v1 3 && inB v2 3) then 0 else 2) else 1) (nI ((gs (ix v0)).2.1 (3 * ix v1 + ix v2))) (mS m0 r) f (fun f' => MW Γ f' m0 r 0 K kp ck msh msm mso np mon ng gs nt ts lim rf sp rr) (fun f' => MW Γ f' m0 r ((if inB v0 (nI ng) then (if (inB v1 3 && inB v2 3) then 0 else 2) else 1)) K kp ck msh msm mso np mon ng gs nt ts lim rf sp rr)) := by
  refine Ct_of (by decide +kernel) (Nat.le_of_ble_eq_true rfl) ?_
  intro p e s m args below meth c hx hb hr hml hown hin hlocks hts hH hO hK ls hl
  have hl : lv_has ls 4 [(0, .ref m0), (1, .int v0), (2, .int v1), (3, .int v2)] := hl
  have hS : va_S (gA Γ) s.heap s.heap [] := va_S.rf
  obtain ⟨⟨dz, gd, hih, mih, fh, hm0⟩, hR⟩ := id hM
  obtain ⟨⟨hk0, hk1, hk2, hk3, hk4, hk5, hk6⟩, ⟨pb, pz, pd, pn, pe, ph, pg, hp0, hp1, hp2, hp3, hp4, hp5, hp6⟩, h0, ⟨hg1, hg2, hg3, hg4, hg5, hg6, hg7, hg8, hg9⟩, ht10, ht11, ht12, ht13⟩ := id hR
  refine lv_aload_n hx hb dX8_at_0 rfl (lv_at hl 0 rfl) ?_
  refine lv_iload_n hx hb dX8_at_1 rfl (lv_at hl 1 rfl) ?_
  refine hm_callV (rest := []) (k := 2) q5_146 q5_148 q1_9 q5_149 q0_19 rfl nm_X8_noGame rfl hx hb hml hown hts hK hO hS hH hl.1 hm0 (c_X8_noGame Γ l m0 r th (nI np) (nI ng) (nI nt) (nI kp) (nI rr) ck lim dz gd hih mih fh msh msm mso sp rf v0 f hm0) ⟨Nat.le_of_ble_eq_true rfl, Nat.le_of_ble_eq_true rfl⟩ ⟨Nat.le_of_ble_eq_true rfl, Nat.le_of_ble_eq_true rfl⟩ rfl (Nat.le_of_ble_eq_true rfl) dX8_at_2 (fun v_ fn1 H locs hp_ hH hS => ?_)
  obtain ⟨rfl, efn1⟩ := hp_
  rcases bTF (inB v0 (nI ng)) with hb1 | hb1
  · rw [hb1] at efn1
    refine W.eq (g2 := F0 m 5 ls [.int 0]) (by rw [hb1]; rfl) ?_
    have hm1_ : fn1 m0 = some (eM r 0 (nI np) (nI ng) (nI nt) (nI kp) (nI rr) ck lim dz gd hih mih fh msh msm mso sp rf) := by rw [efn1]; exact hm_us
    have h2 : fn1 ((r 0)) = some (eI Γ 4 mon) := by rw [efn1]; exact (hm_un (hm_ne h0 hm0 (fun q => by cases q))).trans h0
    have h3 : fn1 ((r 1)) = some (eJ Γ 8 (fun i => b4 (gs i).2.1)) := by rw [efn1]; exact (hm_un (hm_ne hg1 hm0 (fun q => by cases q))).trans hg1
    have h4 : fn1 ((r 2)) = some (eI Γ 8 (fun i => nI (gs i).2.2.1)) := by rw [efn1]; exact (hm_un (hm_ne hg2 hm0 (fun q => by cases q))).trans hg2
    have h5 : fn1 ((r 3)) = some (eI Γ 8 (fun i => nI (gs i).1)) := by rw [efn1]; exact (hm_un (hm_ne hg3 hm0 (fun q => by cases q))).trans hg3
    have h6 : fn1 ((r 4)) = some (eI Γ 8 (fun i => (gs i).2.2.2.1)) := by rw [efn1]; exact (hm_un (hm_ne hg4 hm0 (fun q => by cases q))).trans hg4
    have h7 : fn1 ((r 5)) = some (eI Γ 8 (fun i => (gs i).2.2.2.2.1)) := by rw [efn1]; exact (hm_un (hm_ne hg5 hm0 (fun q => by cases q))).trans hg5
    have h8 : fn1 ((r 6)) = some (eI Γ 8 (fun i => (gs i).2.2.2.2.2.1)) := by rw [efn1]; exact (hm_un (hm_ne hg6 hm0 (fun q => by cases q))).trans hg6
    have h9 : fn1 ((r 7)) = some (eI Γ 8 (fun i => (gs i).2.2.2.2.2.2.1)) := by rw [efn1]; exact (hm_un (hm_ne hg7 hm0 (fun q => by cases q))).trans hg7
    have h10 : fn1 ((r 8)) = some (eI Γ 8 (fun i => (gs i).2.2.2.2.2.2.2.1)) := by rw [efn1]; exact (hm_un (hm_ne hg8 hm0 (fun q => by cases q))).trans hg8
    have h11 : fn1 ((r 9)) = some (eZ Γ 8 (fun i => bI (gs i).2.2.2.2.2.2.2.2)) := by rw [efn1]; exact (hm_un (hm_ne hg9 hm0 (fun q => by cases q))).trans hg9
    have h12 : fn1 ((r 10)) = some (eJ Γ 60 (fun i => b4 (ts i).2.1)) := by rw [efn1]; exact (hm_un (hm_ne ht10 hm0 (fun q => by cases q))).trans ht10
    have h13 : fn1 ((r 11)) = some (eI Γ 60 (fun i => nI (ts i).2.2.1)) := by rw [efn1]; exact (hm_un (hm_ne ht11 hm0 (fun q => by cases q))).trans ht11
    have h14 : fn1 ((r 12)) = some (eI Γ 60 (fun i => nI (ts i).1)) := by rw [efn1]; exact (hm_un (hm_ne ht12 hm0 (fun q => by cases q))).trans ht12
    have h15 : fn1 ((r 13)) = some (eI Γ 60 (fun i => (ts i).2.2.2)) := by rw [efn1]; exact (hm_un (hm_ne ht13 hm0 (fun q => by cases q))).trans ht13
    have h16 : fn1 ((r 14)) = some (eJ Γ 64 (fun j => (K j).1)) := by rw [efn1]; exact (hm_un (hm_ne hk0 hm0 (fun q => by cases q))).trans hk0
    have h17 : fn1 ((r 15)) = some (eI Γ 64 (fun j => (K j).2.1)) := by rw [efn1]; exact (hm_un (hm_ne hk1 hm0 (fun q => by cases q))).trans hk1
    have h18 : fn1 ((r 16)) = some (eI Γ 64 (fun j => (K j).2.2.1)) := by rw [efn1]; exact (hm_un (hm_ne hk2 hm0 (fun q => by cases q))).trans hk2
    have h19 : fn1 ((r 17)) = some (eI Γ 64 (fun j => (K j).2.2.2.1)) := by rw [efn1]; exact (hm_un (hm_ne hk3 hm0 (fun q => by cases q))).trans hk3
    have h20 : fn1 ((r 18)) = some (eI Γ 64 (fun j => (K j).2.2.2.2.1)) := by rw [efn1]; exact (hm_un (hm_ne hk4 hm0 (fun q => by cases q))).trans hk4
    have h21 : fn1 ((r 19)) = some (eI Γ 64 (fun j => (K j).2.2.2.2.2.1)) := by rw [efn1]; exact (hm_un (hm_ne hk5 hm0 (fun q => by cases q))).trans hk5
    have h22 : fn1 ((r 20)) = some (eI Γ 64 (fun j => (K j).2.2.2.2.2.2)) := by rw [efn1]; exact (hm_un (hm_ne hk6 hm0 (fun q => by cases q))).trans hk6
    have h23 : fn1 ((r 21)) = some (eJ Γ 6 pb) := by rw [efn1]; exact (hm_un (hm_ne hp0 hm0 (fun q => by cases q))).trans hp0
    have h24 : fn1 ((r 22)) = some (eI Γ 6 pz) := by rw [efn1]; exact (hm_un (hm_ne hp1 hm0 (fun q => by cases q))).trans hp1
    have h25 : fn1 ((r 23)) = some (eI Γ 6 pd) := by rw [efn1]; exact (hm_un (hm_ne hp2 hm0 (fun q => by cases q))).trans hp2
    have h26 : fn1 ((r 24)) = some (eI Γ 6 pn) := by rw [efn1]; exact (hm_un (hm_ne hp3 hm0 (fun q => by cases q))).trans hp3
    have h27 : fn1 ((r 25)) = some (eI Γ 6 pe) := by rw [efn1]; exact (hm_un (hm_ne hp4 hm0 (fun q => by cases q))).trans hp4
    have h28 : fn1 ((r 26)) = some (eI Γ 6 ph) := by rw [efn1]; exact (hm_un (hm_ne hp5 hm0 (fun q => by cases q))).trans hp5
    have h29 : fn1 ((r 27)) = some (eI Γ 6 pg) := by rw [efn1]; exact (hm_un (hm_ne hp6 hm0 (fun q => by cases q))).trans hp6
    obtain ⟨i, hi, rfl⟩ := (inB_iff (by omega)).mp hb1
    obtain ⟨hgo, hgw, hgz⟩ := hgs i hi
    have hi8 : i < 8 := by omega
    have hix : ix (nI i) = i := ix_nI (by omega)
    have ht15 : tl 15 (gs i).2.1 := tl_mono (tl12 (by omega)) (by decide)
    refine lv_if_ne (tgt := 39) hx hb dX8_at_5 (by decide) (fun c58 => absurd (by decide) c58) (fun _ => ?_)
    refine lv_aload_n hx hb dX8_at_8 rfl (lv_at hl 0 rfl) ?_
    refine lv_iload_n hx hb dX8_at_9 rfl (lv_at hl 2 rfl) ?_
    refine lv_if_lt (tgt := 31) hx hb dX8_at_10 (by decide) (fun c59 => ?_) (fun c59 => ?_)
    · refine lv_iconst (v := 0) hx hb dX8_at_31 (by decide) ?_
      refine lv_iconst (v := 2) hx hb dX8_at_32 (by decide) ?_
      have hb60 : (inB v1 3 && inB v2 3) = false := (by rw [(show inB v1 3 = false by unfold inB; rw [decide_eq_true c59]; rfl)]; rfl)
      refine W.eq (g2 := F0 m 33 ls [.int 2, .int (bI (inB v1 3 && inB v2 3)), .ref m0]) (by rw [hb60]; rfl) ?_
      refine hm_callV (rest := []) (k := 1) q5_119 q5_121 q1_9 q5_122 q0_17 rfl nm_X8_no rfl hx hb hml hown hts hK hO hS hH hl.1 hm1_ (c_X8_no Γ l m0 r 0 (nI np) (nI ng) (nI nt) (nI kp) (nI rr) ck lim dz gd hih mih fh msh msm mso sp rf (inB v1 3 && inB v2 3) 2 fn1 hm1_) ⟨Nat.le_of_ble_eq_true rfl, Nat.le_of_ble_eq_true rfl⟩ ⟨Nat.le_of_ble_eq_true rfl, Nat.le_of_ble_eq_true rfl⟩ rfl (Nat.le_of_ble_eq_true rfl) dX8_at_33 (fun v_ fn61 H locs hp_ hH hS => ?_)
      obtain ⟨rfl, efn61⟩ := hp_
      rw [hb60] at efn61
      refine W.eq (g2 := F0 m 36 ls [.int 1]) (by rw [hb60]; rfl) ?_
      have hm62 : fn61 m0 = some (eM r 2 (nI np) (nI ng) (nI nt) (nI kp) (nI rr) ck lim dz gd hih mih fh msh msm mso sp rf) := by rw [efn61]; exact hm_us
      have h63 : fn61 ((r 0)) = some (eI Γ 4 mon) := by rw [efn61]; exact (hm_un (hm_ne h2 hm1_ (fun q => by cases q))).trans h2
      have h64 : fn61 ((r 1)) = some (eJ Γ 8 (fun i => b4 (gs i).2.1)) := by rw [efn61]; exact (hm_un (hm_ne h3 hm1_ (fun q => by cases q))).trans h3
      have h65 : fn61 ((r 2)) = some (eI Γ 8 (fun i => nI (gs i).2.2.1)) := by rw [efn61]; exact (hm_un (hm_ne h4 hm1_ (fun q => by cases q))).trans h4
      have h66 : fn61 ((r 3)) = some (eI Γ 8 (fun i => nI (gs i).1)) := by rw [efn61]; exact (hm_un (hm_ne h5 hm1_ (fun q => by cases q))).trans h5
      have h67 : fn61 ((r 4)) = some (eI Γ 8 (fun i => (gs i).2.2.2.1)) := by rw [efn61]; exact (hm_un (hm_ne h6 hm1_ (fun q => by cases q))).trans h6
      have h68 : fn61 ((r 5)) = some (eI Γ 8 (fun i => (gs i).2.2.2.2.1)) := by rw [efn61]; exact (hm_un (hm_ne h7 hm1_ (fun q => by cases q))).trans h7
      have h69 : fn61 ((r 6)) = some (eI Γ 8 (fun i => (gs i).2.2.2.2.2.1)) := by rw [efn61]; exact (hm_un (hm_ne h8 hm1_ (fun q => by cases q))).trans h8
      have h70 : fn61 ((r 7)) = some (eI Γ 8 (fun i => (gs i).2.2.2.2.2.2.1)) := by rw [efn61]; exact (hm_un (hm_ne h9 hm1_ (fun q => by cases q))).trans h9
      have h71 : fn61 ((r 8)) = some (eI Γ 8 (fun i => (gs i).2.2.2.2.2.2.2.1)) := by rw [efn61]; exact (hm_un (hm_ne h10 hm1_ (fun q => by cases q))).trans h10
      have h72 : fn61 ((r 9)) = some (eZ Γ 8 (fun i => bI (gs i).2.2.2.2.2.2.2.2)) := by rw [efn61]; exact (hm_un (hm_ne h11 hm1_ (fun q => by cases q))).trans h11
      have h73 : fn61 ((r 10)) = some (eJ Γ 60 (fun i => b4 (ts i).2.1)) := by rw [efn61]; exact (hm_un (hm_ne h12 hm1_ (fun q => by cases q))).trans h12
      have h74 : fn61 ((r 11)) = some (eI Γ 60 (fun i => nI (ts i).2.2.1)) := by rw [efn61]; exact (hm_un (hm_ne h13 hm1_ (fun q => by cases q))).trans h13
      have h75 : fn61 ((r 12)) = some (eI Γ 60 (fun i => nI (ts i).1)) := by rw [efn61]; exact (hm_un (hm_ne h14 hm1_ (fun q => by cases q))).trans h14
      have h76 : fn61 ((r 13)) = some (eI Γ 60 (fun i => (ts i).2.2.2)) := by rw [efn61]; exact (hm_un (hm_ne h15 hm1_ (fun q => by cases q))).trans h15
      have h77 : fn61 ((r 14)) = some (eJ Γ 64 (fun j => (K j).1)) := by rw [efn61]; exact (hm_un (hm_ne h16 hm1_ (fun q => by cases q))).trans h16
      have h78 : fn61 ((r 15)) = some (eI Γ 64 (fun j => (K j).2.1)) := by rw [efn61]; exact (hm_un (hm_ne h17 hm1_ (fun q => by cases q))).trans h17
      have h79 : fn61 ((r 16)) = some (eI Γ 64 (fun j => (K j).2.2.1)) := by rw [efn61]; exact (hm_un (hm_ne h18 hm1_ (fun q => by cases q))).trans h18
      have h80 : fn61 ((r 17)) = some (eI Γ 64 (fun j => (K j).2.2.2.1)) := by rw [efn61]; exact (hm_un (hm_ne h19 hm1_ (fun q => by cases q))).trans h19
      have h81 : fn61 ((r 18)) = some (eI Γ 64 (fun j => (K j).2.2.2.2.1)) := by rw [efn61]; exact (hm_un (hm_ne h20 hm1_ (fun q => by cases q))).trans h20
      have h82 : fn61 ((r 19)) = some (eI Γ 64 (fun j => (K j).2.2.2.2.2.1)) := by rw [efn61]; exact (hm_un (hm_ne h21 hm1_ (fun q => by cases q))).trans h21
      have h83 : fn61 ((r 20)) = some (eI Γ 64 (fun j => (K j).2.2.2.2.2.2)) := by rw [efn61]; exact (hm_un (hm_ne h22 hm1_ (fun q => by cases q))).trans h22
      have h84 : fn61 ((r 21)) = some (eJ Γ 6 pb) := by rw [efn61]; exact (hm_un (hm_ne h23 hm1_ (fun q => by cases q))).trans h23
      have h85 : fn61 ((r 22)) = some (eI Γ 6 pz) := by rw [efn61]; exact (hm_un (hm_ne h24 hm1_ (fun q => by cases q))).trans h24
      have h86 : fn61 ((r 23)) = some (eI Γ 6 pd) := by rw [efn61]; exact (hm_un (hm_ne h25 hm1_ (fun q => by cases q))).trans h25
      have h87 : fn61 ((r 24)) = some (eI Γ 6 pn) := by rw [efn61]; exact (hm_un (hm_ne h26 hm1_ (fun q => by cases q))).trans h26
      have h88 : fn61 ((r 25)) = some (eI Γ 6 pe) := by rw [efn61]; exact (hm_un (hm_ne h27 hm1_ (fun q => by cases q))).trans h27
      have h89 : fn61 ((r 26)) = some (eI Γ 6 ph) := by rw [efn61]; exact (hm_un (hm_ne h28 hm1_ (fun q => by cases q))).trans h28
      have h90 : fn61 ((r 27)) = some (eI Γ 6 pg) := by rw [efn61]; exact (hm_un (hm_ne h29 hm1_ (fun q => by cases q))).trans h29
      refine lv_if_eq (tgt := 43) hx hb dX8_at_36 (by decide) (fun c91 => absurd c91 (by decide)) (fun _ => ?_)
      refine lv_iconst (v := 0) hx hb dX8_at_39 (by decide) ?_
      refine lv_goto (tgt := 57) hx hb dX8_at_40 (by decide) ?_
      have hfr9 : hm_fr (mS m0 r) f fn61 := by
        rw [efn61, efn1]
        exact ((hm_fr.rf (S := mS m0 r)).up mS_0).up mS_0
      exact hm_iret hx hb hr hlocks hS hH (⟨Or.inr ⟨by rw [hb1]; (try rw [hix]); rw [hb60]; exact (show (2 : Int32) ≠ 0 by decide), ⟨_, rfl⟩, by rw [hb1]; (try rw [hix]); rw [hb60]; exact MW.mk hm62 ⟨⟨h77, h78, h79, h80, h81, h82, h83⟩, ⟨_, _, _, _, _, _, _, h84, h85, h86, h87, h88, h89, h90⟩, h63, ⟨h64, h65, h66, h67, h68, h69, h70, h71, h72⟩, h73, h74, h75, h76⟩⟩, hfr9.k⟩) (Nat.le_of_ble_eq_true rfl) (Nat.le_of_ble_eq_true rfl) dX8_at_57
    · refine lv_iload_n hx hb dX8_at_13 rfl (lv_at hl 2 rfl) ?_
      refine lv_iconst (v := 3) hx hb dX8_at_14 (by decide) ?_
      refine lv_icmp_ge (tgt := 31) hx hb dX8_at_15 (by decide) (fun c92 => ?_) (fun c92 => ?_)
      · refine lv_iconst (v := 0) hx hb dX8_at_31 (by decide) ?_
        refine lv_iconst (v := 2) hx hb dX8_at_32 (by decide) ?_
        have hb93 : (inB v1 3 && inB v2 3) = false := (by rw [(show inB v1 3 = false by unfold inB; rw [decide_eq_false (Int32.not_lt.mpr c92), Bool.and_false])]; rfl)
        refine W.eq (g2 := F0 m 33 ls [.int 2, .int (bI (inB v1 3 && inB v2 3)), .ref m0]) (by rw [hb93]; rfl) ?_
        refine hm_callV (rest := []) (k := 1) q5_119 q5_121 q1_9 q5_122 q0_17 rfl nm_X8_no rfl hx hb hml hown hts hK hO hS hH hl.1 hm1_ (c_X8_no Γ l m0 r 0 (nI np) (nI ng) (nI nt) (nI kp) (nI rr) ck lim dz gd hih mih fh msh msm mso sp rf (inB v1 3 && inB v2 3) 2 fn1 hm1_) ⟨Nat.le_of_ble_eq_true rfl, Nat.le_of_ble_eq_true rfl⟩ ⟨Nat.le_of_ble_eq_true rfl, Nat.le_of_ble_eq_true rfl⟩ rfl (Nat.le_of_ble_eq_true rfl) dX8_at_33 (fun v_ fn94 H locs hp_ hH hS => ?_)
        obtain ⟨rfl, efn94⟩ := hp_
        rw [hb93] at efn94
        refine W.eq (g2 := F0 m 36 ls [.int 1]) (by rw [hb93]; rfl) ?_
        have hm95 : fn94 m0 = some (eM r 2 (nI np) (nI ng) (nI nt) (nI kp) (nI rr) ck lim dz gd hih mih fh msh msm mso sp rf) := by rw [efn94]; exact hm_us
        have h96 : fn94 ((r 0)) = some (eI Γ 4 mon) := by rw [efn94]; exact (hm_un (hm_ne h2 hm1_ (fun q => by cases q))).trans h2
        have h97 : fn94 ((r 1)) = some (eJ Γ 8 (fun i => b4 (gs i).2.1)) := by rw [efn94]; exact (hm_un (hm_ne h3 hm1_ (fun q => by cases q))).trans h3
        have h98 : fn94 ((r 2)) = some (eI Γ 8 (fun i => nI (gs i).2.2.1)) := by rw [efn94]; exact (hm_un (hm_ne h4 hm1_ (fun q => by cases q))).trans h4
        have h99 : fn94 ((r 3)) = some (eI Γ 8 (fun i => nI (gs i).1)) := by rw [efn94]; exact (hm_un (hm_ne h5 hm1_ (fun q => by cases q))).trans h5
        have h100 : fn94 ((r 4)) = some (eI Γ 8 (fun i => (gs i).2.2.2.1)) := by rw [efn94]; exact (hm_un (hm_ne h6 hm1_ (fun q => by cases q))).trans h6
        have h101 : fn94 ((r 5)) = some (eI Γ 8 (fun i => (gs i).2.2.2.2.1)) := by rw [efn94]; exact (hm_un (hm_ne h7 hm1_ (fun q => by cases q))).trans h7
        have h102 : fn94 ((r 6)) = some (eI Γ 8 (fun i => (gs i).2.2.2.2.2.1)) := by rw [efn94]; exact (hm_un (hm_ne h8 hm1_ (fun q => by cases q))).trans h8
        have h103 : fn94 ((r 7)) = some (eI Γ 8 (fun i => (gs i).2.2.2.2.2.2.1)) := by rw [efn94]; exact (hm_un (hm_ne h9 hm1_ (fun q => by cases q))).trans h9
        have h104 : fn94 ((r 8)) = some (eI Γ 8 (fun i => (gs i).2.2.2.2.2.2.2.1)) := by rw [efn94]; exact (hm_un (hm_ne h10 hm1_ (fun q => by cases q))).trans h10
        have h105 : fn94 ((r 9)) = some (eZ Γ 8 (fun i => bI (gs i).2.2.2.2.2.2.2.2)) := by rw [efn94]; exact (hm_un (hm_ne h11 hm1_ (fun q => by cases q))).trans h11
        have h106 : fn94 ((r 10)) = some (eJ Γ 60 (fun i => b4 (ts i).2.1)) := by rw [efn94]; exact (hm_un (hm_ne h12 hm1_ (fun q => by cases q))).trans h12
        have h107 : fn94 ((r 11)) = some (eI Γ 60 (fun i => nI (ts i).2.2.1)) := by rw [efn94]; exact (hm_un (hm_ne h13 hm1_ (fun q => by cases q))).trans h13
        have h108 : fn94 ((r 12)) = some (eI Γ 60 (fun i => nI (ts i).1)) := by rw [efn94]; exact (hm_un (hm_ne h14 hm1_ (fun q => by cases q))).trans h14
        have h109 : fn94 ((r 13)) = some (eI Γ 60 (fun i => (ts i).2.2.2)) := by rw [efn94]; exact (hm_un (hm_ne h15 hm1_ (fun q => by cases q))).trans h15
        have h110 : fn94 ((r 14)) = some (eJ Γ 64 (fun j => (K j).1)) := by rw [efn94]; exact (hm_un (hm_ne h16 hm1_ (fun q => by cases q))).trans h16
        have h111 : fn94 ((r 15)) = some (eI Γ 64 (fun j => (K j).2.1)) := by rw [efn94]; exact (hm_un (hm_ne h17 hm1_ (fun q => by cases q))).trans h17
        have h112 : fn94 ((r 16)) = some (eI Γ 64 (fun j => (K j).2.2.1)) := by rw [efn94]; exact (hm_un (hm_ne h18 hm1_ (fun q => by cases q))).trans h18
        have h113 : fn94 ((r 17)) = some (eI Γ 64 (fun j => (K j).2.2.2.1)) := by rw [efn94]; exact (hm_un (hm_ne h19 hm1_ (fun q => by cases q))).trans h19
        have h114 : fn94 ((r 18)) = some (eI Γ 64 (fun j => (K j).2.2.2.2.1)) := by rw [efn94]; exact (hm_un (hm_ne h20 hm1_ (fun q => by cases q))).trans h20
        have h115 : fn94 ((r 19)) = some (eI Γ 64 (fun j => (K j).2.2.2.2.2.1)) := by rw [efn94]; exact (hm_un (hm_ne h21 hm1_ (fun q => by cases q))).trans h21
        have h116 : fn94 ((r 20)) = some (eI Γ 64 (fun j => (K j).2.2.2.2.2.2)) := by rw [efn94]; exact (hm_un (hm_ne h22 hm1_ (fun q => by cases q))).trans h22
        have h117 : fn94 ((r 21)) = some (eJ Γ 6 pb) := by rw [efn94]; exact (hm_un (hm_ne h23 hm1_ (fun q => by cases q))).trans h23
        have h118 : fn94 ((r 22)) = some (eI Γ 6 pz) := by rw [efn94]; exact (hm_un (hm_ne h24 hm1_ (fun q => by cases q))).trans h24
        have h119 : fn94 ((r 23)) = some (eI Γ 6 pd) := by rw [efn94]; exact (hm_un (hm_ne h25 hm1_ (fun q => by cases q))).trans h25
        have h120 : fn94 ((r 24)) = some (eI Γ 6 pn) := by rw [efn94]; exact (hm_un (hm_ne h26 hm1_ (fun q => by cases q))).trans h26
        have h121 : fn94 ((r 25)) = some (eI Γ 6 pe) := by rw [efn94]; exact (hm_un (hm_ne h27 hm1_ (fun q => by cases q))).trans h27
        have h122 : fn94 ((r 26)) = some (eI Γ 6 ph) := by rw [efn94]; exact (hm_un (hm_ne h28 hm1_ (fun q => by cases q))).trans h28
        have h123 : fn94 ((r 27)) = some (eI Γ 6 pg) := by rw [efn94]; exact (hm_un (hm_ne h29 hm1_ (fun q => by cases q))).trans h29
        refine lv_if_eq (tgt := 43) hx hb dX8_at_36 (by decide) (fun c124 => absurd c124 (by decide)) (fun _ => ?_)
        refine lv_iconst (v := 0) hx hb dX8_at_39 (by decide) ?_
        refine lv_goto (tgt := 57) hx hb dX8_at_40 (by decide) ?_
        have hfr9 : hm_fr (mS m0 r) f fn94 := by
          rw [efn94, efn1]
          exact ((hm_fr.rf (S := mS m0 r)).up mS_0).up mS_0
        exact hm_iret hx hb hr hlocks hS hH (⟨Or.inr ⟨by rw [hb1]; (try rw [hix]); rw [hb93]; exact (show (2 : Int32) ≠ 0 by decide), ⟨_, rfl⟩, by rw [hb1]; (try rw [hix]); rw [hb93]; exact MW.mk hm95 ⟨⟨h110, h111, h112, h113, h114, h115, h116⟩, ⟨_, _, _, _, _, _, _, h117, h118, h119, h120, h121, h122, h123⟩, h96, ⟨h97, h98, h99, h100, h101, h102, h103, h104, h105⟩, h106, h107, h108, h109⟩⟩, hfr9.k⟩) (Nat.le_of_ble_eq_true rfl) (Nat.le_of_ble_eq_true rfl) dX8_at_57
      · refine lv_iload_n hx hb dX8_at_18 rfl (lv_at hl 3 rfl) ?_
        refine lv_if_lt (tgt := 31) hx hb dX8_at_19 (by decide) (fun c125 => ?_) (fun c125 => ?_)
        · refine lv_iconst (v := 0) hx hb dX8_at_31 (by decide) ?_
          refine lv_iconst (v := 2) hx hb dX8_at_32 (by decide) ?_
          have hb126 : (inB v1 3 && inB v2 3) = false := (by rw [(show inB v2 3 = false by unfold inB; rw [decide_eq_true c125]; rfl), Bool.and_false])
          refine W.eq (g2 := F0 m 33 ls [.int 2, .int (bI (inB v1 3 && inB v2 3)), .ref m0]) (by rw [hb126]; rfl) ?_
          refine hm_callV (rest := []) (k := 1) q5_119 q5_121 q1_9 q5_122 q0_17 rfl nm_X8_no rfl hx hb hml hown hts hK hO hS hH hl.1 hm1_ (c_X8_no Γ l m0 r 0 (nI np) (nI ng) (nI nt) (nI kp) (nI rr) ck lim dz gd hih mih fh msh msm mso sp rf (inB v1 3 && inB v2 3) 2 fn1 hm1_) ⟨Nat.le_of_ble_eq_true rfl, Nat.le_of_ble_eq_true rfl⟩ ⟨Nat.le_of_ble_eq_true rfl, Nat.le_of_ble_eq_true rfl⟩ rfl (Nat.le_of_ble_eq_true rfl) dX8_at_33 (fun v_ fn127 H locs hp_ hH hS => ?_)
          obtain ⟨rfl, efn127⟩ := hp_
          rw [hb126] at efn127
          refine W.eq (g2 := F0 m 36 ls [.int 1]) (by rw [hb126]; rfl) ?_
          have hm128 : fn127 m0 = some (eM r 2 (nI np) (nI ng) (nI nt) (nI kp) (nI rr) ck lim dz gd hih mih fh msh msm mso sp rf) := by rw [efn127]; exact hm_us
          have h129 : fn127 ((r 0)) = some (eI Γ 4 mon) := by rw [efn127]; exact (hm_un (hm_ne h2 hm1_ (fun q => by cases q))).trans h2
          have h130 : fn127 ((r 1)) = some (eJ Γ 8 (fun i => b4 (gs i).2.1)) := by rw [efn127]; exact (hm_un (hm_ne h3 hm1_ (fun q => by cases q))).trans h3
          have h131 : fn127 ((r 2)) = some (eI Γ 8 (fun i => nI (gs i).2.2.1)) := by rw [efn127]; exact (hm_un (hm_ne h4 hm1_ (fun q => by cases q))).trans h4
          have h132 : fn127 ((r 3)) = some (eI Γ 8 (fun i => nI (gs i).1)) := by rw [efn127]; exact (hm_un (hm_ne h5 hm1_ (fun q => by cases q))).trans h5
          have h133 : fn127 ((r 4)) = some (eI Γ 8 (fun i => (gs i).2.2.2.1)) := by rw [efn127]; exact (hm_un (hm_ne h6 hm1_ (fun q => by cases q))).trans h6
          have h134 : fn127 ((r 5)) = some (eI Γ 8 (fun i => (gs i).2.2.2.2.1)) := by rw [efn127]; exact (hm_un (hm_ne h7 hm1_ (fun q => by cases q))).trans h7
          have h135 : fn127 ((r 6)) = some (eI Γ 8 (fun i => (gs i).2.2.2.2.2.1)) := by rw [efn127]; exact (hm_un (hm_ne h8 hm1_ (fun q => by cases q))).trans h8
          have h136 : fn127 ((r 7)) = some (eI Γ 8 (fun i => (gs i).2.2.2.2.2.2.1)) := by rw [efn127]; exact (hm_un (hm_ne h9 hm1_ (fun q => by cases q))).trans h9
          have h137 : fn127 ((r 8)) = some (eI Γ 8 (fun i => (gs i).2.2.2.2.2.2.2.1)) := by rw [efn127]; exact (hm_un (hm_ne h10 hm1_ (fun q => by cases q))).trans h10
          have h138 : fn127 ((r 9)) = some (eZ Γ 8 (fun i => bI (gs i).2.2.2.2.2.2.2.2)) := by rw [efn127]; exact (hm_un (hm_ne h11 hm1_ (fun q => by cases q))).trans h11
          have h139 : fn127 ((r 10)) = some (eJ Γ 60 (fun i => b4 (ts i).2.1)) := by rw [efn127]; exact (hm_un (hm_ne h12 hm1_ (fun q => by cases q))).trans h12
          have h140 : fn127 ((r 11)) = some (eI Γ 60 (fun i => nI (ts i).2.2.1)) := by rw [efn127]; exact (hm_un (hm_ne h13 hm1_ (fun q => by cases q))).trans h13
          have h141 : fn127 ((r 12)) = some (eI Γ 60 (fun i => nI (ts i).1)) := by rw [efn127]; exact (hm_un (hm_ne h14 hm1_ (fun q => by cases q))).trans h14
          have h142 : fn127 ((r 13)) = some (eI Γ 60 (fun i => (ts i).2.2.2)) := by rw [efn127]; exact (hm_un (hm_ne h15 hm1_ (fun q => by cases q))).trans h15
          have h143 : fn127 ((r 14)) = some (eJ Γ 64 (fun j => (K j).1)) := by rw [efn127]; exact (hm_un (hm_ne h16 hm1_ (fun q => by cases q))).trans h16
          have h144 : fn127 ((r 15)) = some (eI Γ 64 (fun j => (K j).2.1)) := by rw [efn127]; exact (hm_un (hm_ne h17 hm1_ (fun q => by cases q))).trans h17
          have h145 : fn127 ((r 16)) = some (eI Γ 64 (fun j => (K j).2.2.1)) := by rw [efn127]; exact (hm_un (hm_ne h18 hm1_ (fun q => by cases q))).trans h18
          have h146 : fn127 ((r 17)) = some (eI Γ 64 (fun j => (K j).2.2.2.1)) := by rw [efn127]; exact (hm_un (hm_ne h19 hm1_ (fun q => by cases q))).trans h19
          have h147 : fn127 ((r 18)) = some (eI Γ 64 (fun j => (K j).2.2.2.2.1)) := by rw [efn127]; exact (hm_un (hm_ne h20 hm1_ (fun q => by cases q))).trans h20
          have h148 : fn127 ((r 19)) = some (eI Γ 64 (fun j => (K j).2.2.2.2.2.1)) := by rw [efn127]; exact (hm_un (hm_ne h21 hm1_ (fun q => by cases q))).trans h21
          have h149 : fn127 ((r 20)) = some (eI Γ 64 (fun j => (K j).2.2.2.2.2.2)) := by rw [efn127]; exact (hm_un (hm_ne h22 hm1_ (fun q => by cases q))).trans h22
          have h150 : fn127 ((r 21)) = some (eJ Γ 6 pb) := by rw [efn127]; exact (hm_un (hm_ne h23 hm1_ (fun q => by cases q))).trans h23
          have h151 : fn127 ((r 22)) = some (eI Γ 6 pz) := by rw [efn127]; exact (hm_un (hm_ne h24 hm1_ (fun q => by cases q))).trans h24
          have h152 : fn127 ((r 23)) = some (eI Γ 6 pd) := by rw [efn127]; exact (hm_un (hm_ne h25 hm1_ (fun q => by cases q))).trans h25
          have h153 : fn127 ((r 24)) = some (eI Γ 6 pn) := by rw [efn127]; exact (hm_un (hm_ne h26 hm1_ (fun q => by cases q))).trans h26
          have h154 : fn127 ((r 25)) = some (eI Γ 6 pe) := by rw [efn127]; exact (hm_un (hm_ne h27 hm1_ (fun q => by cases q))).trans h27
          have h155 : fn127 ((r 26)) = some (eI Γ 6 ph) := by rw [efn127]; exact (hm_un (hm_ne h28 hm1_ (fun q => by cases q))).trans h28
          have h156 : fn127 ((r 27)) = some (eI Γ 6 pg) := by rw [efn127]; exact (hm_un (hm_ne h29 hm1_ (fun q => by cases q))).trans h29
          refine lv_if_eq (tgt := 43) hx hb dX8_at_36 (by decide) (fun c157 => absurd c157 (by decide)) (fun _ => ?_)
          refine lv_iconst (v := 0) hx hb dX8_at_39 (by decide) ?_
          refine lv_goto (tgt := 57) hx hb dX8_at_40 (by decide) ?_
          have hfr9 : hm_fr (mS m0 r) f fn127 := by
            rw [efn127, efn1]
            exact ((hm_fr.rf (S := mS m0 r)).up mS_0).up mS_0
          exact hm_iret hx hb hr hlocks hS hH (⟨Or.inr ⟨by rw [hb1]; (try rw [hix]); rw [hb126]; exact (show (2 : Int32) ≠ 0 by decide), ⟨_, rfl⟩, by rw [hb1]; (try rw [hix]); rw [hb126]; exact MW.mk hm128 ⟨⟨h143, h144, h145, h146, h147, h148, h149⟩, ⟨_, _, _, _, _, _, _, h150, h151, h152, h153, h154, h155, h156⟩, h129, ⟨h130, h131, h132, h133, h134, h135, h136, h137, h138⟩, h139, h140, h141, h142⟩⟩, hfr9.k⟩) (Nat.le_of_ble_eq_true rfl) (Nat.le_of_ble_eq_true rfl) dX8_at_57
        · refine lv_iload_n hx hb dX8_at_22 rfl (lv_at hl 3 rfl) ?_
          refine lv_iconst (v := 3) hx hb dX8_at_23 (by decide) ?_
          refine lv_icmp_ge (tgt := 31) hx hb dX8_at_24 (by decide) (fun c158 => ?_) (fun c158 => ?_)
          · refine lv_iconst (v := 0) hx hb dX8_at_31 (by decide) ?_
            refine lv_iconst (v := 2) hx hb dX8_at_32 (by decide) ?_
            have hb159 : (inB v1 3 && inB v2 3) = false := (by rw [(show inB v2 3 = false by unfold inB; rw [decide_eq_false (Int32.not_lt.mpr c158), Bool.and_false]), Bool.and_false])
            refine W.eq (g2 := F0 m 33 ls [.int 2, .int (bI (inB v1 3 && inB v2 3)), .ref m0]) (by rw [hb159]; rfl) ?_
            refine hm_callV (rest := []) (k := 1) q5_119 q5_121 q1_9 q5_122 q0_17 rfl nm_X8_no rfl hx hb hml hown hts hK hO hS hH hl.1 hm1_ (c_X8_no Γ l m0 r 0 (nI np) (nI ng) (nI nt) (nI kp) (nI rr) ck lim dz gd hih mih fh msh msm mso sp rf (inB v1 3 && inB v2 3) 2 fn1 hm1_) ⟨Nat.le_of_ble_eq_true rfl, Nat.le_of_ble_eq_true rfl⟩ ⟨Nat.le_of_ble_eq_true rfl, Nat.le_of_ble_eq_true rfl⟩ rfl (Nat.le_of_ble_eq_true rfl) dX8_at_33 (fun v_ fn160 H locs hp_ hH hS => ?_)
            obtain ⟨rfl, efn160⟩ := hp_
            rw [hb159] at efn160
            refine W.eq (g2 := F0 m 36 ls [.int 1]) (by rw [hb159]; rfl) ?_
            have hm161 : fn160 m0 = some (eM r 2 (nI np) (nI ng) (nI nt) (nI kp) (nI rr) ck lim dz gd hih mih fh msh msm mso sp rf) := by rw [efn160]; exact hm_us
            have h162 : fn160 ((r 0)) = some (eI Γ 4 mon) := by rw [efn160]; exact (hm_un (hm_ne h2 hm1_ (fun q => by cases q))).trans h2
            have h163 : fn160 ((r 1)) = some (eJ Γ 8 (fun i => b4 (gs i).2.1)) := by rw [efn160]; exact (hm_un (hm_ne h3 hm1_ (fun q => by cases q))).trans h3
            have h164 : fn160 ((r 2)) = some (eI Γ 8 (fun i => nI (gs i).2.2.1)) := by rw [efn160]; exact (hm_un (hm_ne h4 hm1_ (fun q => by cases q))).trans h4
            have h165 : fn160 ((r 3)) = some (eI Γ 8 (fun i => nI (gs i).1)) := by rw [efn160]; exact (hm_un (hm_ne h5 hm1_ (fun q => by cases q))).trans h5
            have h166 : fn160 ((r 4)) = some (eI Γ 8 (fun i => (gs i).2.2.2.1)) := by rw [efn160]; exact (hm_un (hm_ne h6 hm1_ (fun q => by cases q))).trans h6
            have h167 : fn160 ((r 5)) = some (eI Γ 8 (fun i => (gs i).2.2.2.2.1)) := by rw [efn160]; exact (hm_un (hm_ne h7 hm1_ (fun q => by cases q))).trans h7
            have h168 : fn160 ((r 6)) = some (eI Γ 8 (fun i => (gs i).2.2.2.2.2.1)) := by rw [efn160]; exact (hm_un (hm_ne h8 hm1_ (fun q => by cases q))).trans h8
            have h169 : fn160 ((r 7)) = some (eI Γ 8 (fun i => (gs i).2.2.2.2.2.2.1)) := by rw [efn160]; exact (hm_un (hm_ne h9 hm1_ (fun q => by cases q))).trans h9
            have h170 : fn160 ((r 8)) = some (eI Γ 8 (fun i => (gs i).2.2.2.2.2.2.2.1)) := by rw [efn160]; exact (hm_un (hm_ne h10 hm1_ (fun q => by cases q))).trans h10
            have h171 : fn160 ((r 9)) = some (eZ Γ 8 (fun i => bI (gs i).2.2.2.2.2.2.2.2)) := by rw [efn160]; exact (hm_un (hm_ne h11 hm1_ (fun q => by cases q))).trans h11
            have h172 : fn160 ((r 10)) = some (eJ Γ 60 (fun i => b4 (ts i).2.1)) := by rw [efn160]; exact (hm_un (hm_ne h12 hm1_ (fun q => by cases q))).trans h12
            have h173 : fn160 ((r 11)) = some (eI Γ 60 (fun i => nI (ts i).2.2.1)) := by rw [efn160]; exact (hm_un (hm_ne h13 hm1_ (fun q => by cases q))).trans h13
            have h174 : fn160 ((r 12)) = some (eI Γ 60 (fun i => nI (ts i).1)) := by rw [efn160]; exact (hm_un (hm_ne h14 hm1_ (fun q => by cases q))).trans h14
            have h175 : fn160 ((r 13)) = some (eI Γ 60 (fun i => (ts i).2.2.2)) := by rw [efn160]; exact (hm_un (hm_ne h15 hm1_ (fun q => by cases q))).trans h15
            have h176 : fn160 ((r 14)) = some (eJ Γ 64 (fun j => (K j).1)) := by rw [efn160]; exact (hm_un (hm_ne h16 hm1_ (fun q => by cases q))).trans h16
            have h177 : fn160 ((r 15)) = some (eI Γ 64 (fun j => (K j).2.1)) := by rw [efn160]; exact (hm_un (hm_ne h17 hm1_ (fun q => by cases q))).trans h17
            have h178 : fn160 ((r 16)) = some (eI Γ 64 (fun j => (K j).2.2.1)) := by rw [efn160]; exact (hm_un (hm_ne h18 hm1_ (fun q => by cases q))).trans h18
            have h179 : fn160 ((r 17)) = some (eI Γ 64 (fun j => (K j).2.2.2.1)) := by rw [efn160]; exact (hm_un (hm_ne h19 hm1_ (fun q => by cases q))).trans h19
            have h180 : fn160 ((r 18)) = some (eI Γ 64 (fun j => (K j).2.2.2.2.1)) := by rw [efn160]; exact (hm_un (hm_ne h20 hm1_ (fun q => by cases q))).trans h20
            have h181 : fn160 ((r 19)) = some (eI Γ 64 (fun j => (K j).2.2.2.2.2.1)) := by rw [efn160]; exact (hm_un (hm_ne h21 hm1_ (fun q => by cases q))).trans h21
            have h182 : fn160 ((r 20)) = some (eI Γ 64 (fun j => (K j).2.2.2.2.2.2)) := by rw [efn160]; exact (hm_un (hm_ne h22 hm1_ (fun q => by cases q))).trans h22
            have h183 : fn160 ((r 21)) = some (eJ Γ 6 pb) := by rw [efn160]; exact (hm_un (hm_ne h23 hm1_ (fun q => by cases q))).trans h23
            have h184 : fn160 ((r 22)) = some (eI Γ 6 pz) := by rw [efn160]; exact (hm_un (hm_ne h24 hm1_ (fun q => by cases q))).trans h24
            have h185 : fn160 ((r 23)) = some (eI Γ 6 pd) := by rw [efn160]; exact (hm_un (hm_ne h25 hm1_ (fun q => by cases q))).trans h25
            have h186 : fn160 ((r 24)) = some (eI Γ 6 pn) := by rw [efn160]; exact (hm_un (hm_ne h26 hm1_ (fun q => by cases q))).trans h26
            have h187 : fn160 ((r 25)) = some (eI Γ 6 pe) := by rw [efn160]; exact (hm_un (hm_ne h27 hm1_ (fun q => by cases q))).trans h27
            have h188 : fn160 ((r 26)) = some (eI Γ 6 ph) := by rw [efn160]; exact (hm_un (hm_ne h28 hm1_ (fun q => by cases q))).trans h28
            have h189 : fn160 ((r 27)) = some (eI Γ 6 pg) := by rw [efn160]; exact (hm_un (hm_ne h29 hm1_ (fun q => by cases q))).trans h29
            refine lv_if_eq (tgt := 43) hx hb dX8_at_36 (by decide) (fun c190 => absurd c190 (by decide)) (fun _ => ?_)
            refine lv_iconst (v := 0) hx hb dX8_at_39 (by decide) ?_
            refine lv_goto (tgt := 57) hx hb dX8_at_40 (by decide) ?_
            have hfr9 : hm_fr (mS m0 r) f fn160 := by
              rw [efn160, efn1]
              exact ((hm_fr.rf (S := mS m0 r)).up mS_0).up mS_0
            exact hm_iret hx hb hr hlocks hS hH (⟨Or.inr ⟨by rw [hb1]; (try rw [hix]); rw [hb159]; exact (show (2 : Int32) ≠ 0 by decide), ⟨_, rfl⟩, by rw [hb1]; (try rw [hix]); rw [hb159]; exact MW.mk hm161 ⟨⟨h176, h177, h178, h179, h180, h181, h182⟩, ⟨_, _, _, _, _, _, _, h183, h184, h185, h186, h187, h188, h189⟩, h162, ⟨h163, h164, h165, h166, h167, h168, h169, h170, h171⟩, h172, h173, h174, h175⟩⟩, hfr9.k⟩) (Nat.le_of_ble_eq_true rfl) (Nat.le_of_ble_eq_true rfl) dX8_at_57
          · refine lv_iconst (v := 1) hx hb dX8_at_27 (by decide) ?_
            refine lv_goto (tgt := 32) hx hb dX8_at_28 (by decide) ?_
            refine lv_iconst (v := 2) hx hb dX8_at_32 (by decide) ?_
            have hb191 : (inB v1 3 && inB v2 3) = true := (by rw [(show inB v1 3 = true by unfold inB; rw [decide_eq_false c59, decide_eq_true (Int32.not_le.mp c92)]; rfl), (show inB v2 3 = true by unfold inB; rw [decide_eq_false c125, decide_eq_true (Int32.not_le.mp c158)]; rfl)]; rfl)
            refine W.eq (g2 := F0 m 33 ls [.int 2, .int (bI (inB v1 3 && inB v2 3)), .ref m0]) (by rw [hb191]; rfl) ?_
            refine hm_callV (rest := []) (k := 1) q5_119 q5_121 q1_9 q5_122 q0_17 rfl nm_X8_no rfl hx hb hml hown hts hK hO hS hH hl.1 hm1_ (c_X8_no Γ l m0 r 0 (nI np) (nI ng) (nI nt) (nI kp) (nI rr) ck lim dz gd hih mih fh msh msm mso sp rf (inB v1 3 && inB v2 3) 2 fn1 hm1_) ⟨Nat.le_of_ble_eq_true rfl, Nat.le_of_ble_eq_true rfl⟩ ⟨Nat.le_of_ble_eq_true rfl, Nat.le_of_ble_eq_true rfl⟩ rfl (Nat.le_of_ble_eq_true rfl) dX8_at_33 (fun v_ fn192 H locs hp_ hH hS => ?_)
            obtain ⟨rfl, efn192⟩ := hp_
            rw [hb191] at efn192
            refine W.eq (g2 := F0 m 36 ls [.int 0]) (by rw [hb191]; rfl) ?_
            have hm193 : fn192 m0 = some (eM r 0 (nI np) (nI ng) (nI nt) (nI kp) (nI rr) ck lim dz gd hih mih fh msh msm mso sp rf) := by rw [efn192]; exact hm_us
            have h194 : fn192 ((r 0)) = some (eI Γ 4 mon) := by rw [efn192]; exact (hm_un (hm_ne h2 hm1_ (fun q => by cases q))).trans h2
            have h195 : fn192 ((r 1)) = some (eJ Γ 8 (fun i => b4 (gs i).2.1)) := by rw [efn192]; exact (hm_un (hm_ne h3 hm1_ (fun q => by cases q))).trans h3
            have h196 : fn192 ((r 2)) = some (eI Γ 8 (fun i => nI (gs i).2.2.1)) := by rw [efn192]; exact (hm_un (hm_ne h4 hm1_ (fun q => by cases q))).trans h4
            have h197 : fn192 ((r 3)) = some (eI Γ 8 (fun i => nI (gs i).1)) := by rw [efn192]; exact (hm_un (hm_ne h5 hm1_ (fun q => by cases q))).trans h5
            have h198 : fn192 ((r 4)) = some (eI Γ 8 (fun i => (gs i).2.2.2.1)) := by rw [efn192]; exact (hm_un (hm_ne h6 hm1_ (fun q => by cases q))).trans h6
            have h199 : fn192 ((r 5)) = some (eI Γ 8 (fun i => (gs i).2.2.2.2.1)) := by rw [efn192]; exact (hm_un (hm_ne h7 hm1_ (fun q => by cases q))).trans h7
            have h200 : fn192 ((r 6)) = some (eI Γ 8 (fun i => (gs i).2.2.2.2.2.1)) := by rw [efn192]; exact (hm_un (hm_ne h8 hm1_ (fun q => by cases q))).trans h8
            have h201 : fn192 ((r 7)) = some (eI Γ 8 (fun i => (gs i).2.2.2.2.2.2.1)) := by rw [efn192]; exact (hm_un (hm_ne h9 hm1_ (fun q => by cases q))).trans h9
            have h202 : fn192 ((r 8)) = some (eI Γ 8 (fun i => (gs i).2.2.2.2.2.2.2.1)) := by rw [efn192]; exact (hm_un (hm_ne h10 hm1_ (fun q => by cases q))).trans h10
            have h203 : fn192 ((r 9)) = some (eZ Γ 8 (fun i => bI (gs i).2.2.2.2.2.2.2.2)) := by rw [efn192]; exact (hm_un (hm_ne h11 hm1_ (fun q => by cases q))).trans h11
            have h204 : fn192 ((r 10)) = some (eJ Γ 60 (fun i => b4 (ts i).2.1)) := by rw [efn192]; exact (hm_un (hm_ne h12 hm1_ (fun q => by cases q))).trans h12
            have h205 : fn192 ((r 11)) = some (eI Γ 60 (fun i => nI (ts i).2.2.1)) := by rw [efn192]; exact (hm_un (hm_ne h13 hm1_ (fun q => by cases q))).trans h13
            have h206 : fn192 ((r 12)) = some (eI Γ 60 (fun i => nI (ts i).1)) := by rw [efn192]; exact (hm_un (hm_ne h14 hm1_ (fun q => by cases q))).trans h14
            have h207 : fn192 ((r 13)) = some (eI Γ 60 (fun i => (ts i).2.2.2)) := by rw [efn192]; exact (hm_un (hm_ne h15 hm1_ (fun q => by cases q))).trans h15
            have h208 : fn192 ((r 14)) = some (eJ Γ 64 (fun j => (K j).1)) := by rw [efn192]; exact (hm_un (hm_ne h16 hm1_ (fun q => by cases q))).trans h16
            have h209 : fn192 ((r 15)) = some (eI Γ 64 (fun j => (K j).2.1)) := by rw [efn192]; exact (hm_un (hm_ne h17 hm1_ (fun q => by cases q))).trans h17
            have h210 : fn192 ((r 16)) = some (eI Γ 64 (fun j => (K j).2.2.1)) := by rw [efn192]; exact (hm_un (hm_ne h18 hm1_ (fun q => by cases q))).trans h18
            have h211 : fn192 ((r 17)) = some (eI Γ 64 (fun j => (K j).2.2.2.1)) := by rw [efn192]; exact (hm_un (hm_ne h19 hm1_ (fun q => by cases q))).trans h19
            have h212 : fn192 ((r 18)) = some (eI Γ 64 (fun j => (K j).2.2.2.2.1)) := by rw [efn192]; exact (hm_un (hm_ne h20 hm1_ (fun q => by cases q))).trans h20
            have h213 : fn192 ((r 19)) = some (eI Γ 64 (fun j => (K j).2.2.2.2.2.1)) := by rw [efn192]; exact (hm_un (hm_ne h21 hm1_ (fun q => by cases q))).trans h21
            have h214 : fn192 ((r 20)) = some (eI Γ 64 (fun j => (K j).2.2.2.2.2.2)) := by rw [efn192]; exact (hm_un (hm_ne h22 hm1_ (fun q => by cases q))).trans h22
            have h215 : fn192 ((r 21)) = some (eJ Γ 6 pb) := by rw [efn192]; exact (hm_un (hm_ne h23 hm1_ (fun q => by cases q))).trans h23
            have h216 : fn192 ((r 22)) = some (eI Γ 6 pz) := by rw [efn192]; exact (hm_un (hm_ne h24 hm1_ (fun q => by cases q))).trans h24
            have h217 : fn192 ((r 23)) = some (eI Γ 6 pd) := by rw [efn192]; exact (hm_un (hm_ne h25 hm1_ (fun q => by cases q))).trans h25
            have h218 : fn192 ((r 24)) = some (eI Γ 6 pn) := by rw [efn192]; exact (hm_un (hm_ne h26 hm1_ (fun q => by cases q))).trans h26
            have h219 : fn192 ((r 25)) = some (eI Γ 6 pe) := by rw [efn192]; exact (hm_un (hm_ne h27 hm1_ (fun q => by cases q))).trans h27
            have h220 : fn192 ((r 26)) = some (eI Γ 6 ph) := by rw [efn192]; exact (hm_un (hm_ne h28 hm1_ (fun q => by cases q))).trans h28
            have h221 : fn192 ((r 27)) = some (eI Γ 6 pg) := by rw [efn192]; exact (hm_un (hm_ne h29 hm1_ (fun q => by cases q))).trans h29
            refine lv_if_eq (tgt := 43) hx hb dX8_at_36 (by decide) (fun _ => ?_) (fun c222 => absurd (by decide) c222)
            obtain ⟨a, ha, rfl⟩ := rng_in (n := 3) c59 (Int32.not_le.mp c92) (by decide)
            obtain ⟨b, hb_, rfl⟩ := rng_in (n := 3) c125 (Int32.not_le.mp c158) (by decide)
            refine lv_aload_n hx hb dX8_at_43 rfl (lv_at hl 0 rfl) ?_
            refine gf_X8_13 hx hb hts hown hK hH hm193 rfl dX8_at_44 ?_
            refine lv_iload_n hx hb dX8_at_47 rfl (lv_at hl 1 rfl) ?_
            refine hm_lald hx hb hK hH h195 (vp_in_nI hi8 (by decide)) dX8_at_48 ?_
            refine lv_topl (fun v223 ev223 => ?_)
            replace ev223 : v223 = b4 (gs i).2.1 := ev223.trans (by show b4 (gs (nI i).toNatClampNeg).2.1 = _; rw [nI_clamp (n := i) (by omega)])
            subst ev223
            refine lv_iconst (v := 3) hx hb dX8_at_49 (by decide) ?_
            refine lv_iload_n hx hb dX8_at_50 rfl (lv_at hl 2 rfl) ?_
            refine lv_imul hx hb dX8_at_51 ?_
            refine lv_topi (fun v224 ev224 => ?_)
            replace ev224 : v224 = nI (3 * a) := ev224.trans (m_4k3 a)
            subst ev224
            refine lv_iload_n hx hb dX8_at_52 rfl (lv_at hl 3 rfl) ?_
            refine lv_iadd hx hb dX8_at_53 ?_
            refine lv_topi (fun v225 ev225 => ?_)
            replace ev225 : v225 = nI (3 * a + b) := ev225.trans (nI_add _ _)
            subst ev225
            refine hm_callS (rest := []) (k := 1) q5_131 q5_132 q1_9 q5_133 nm_X8_tile rfl hx hb hml hown hts hK hO hS hH hl.1 (c_X8_tile Γ l (gs i).2.1 (3 * a + b) fn192 (tl_mono ht15 (by decide)) (by omega)) ⟨Nat.le_of_ble_eq_true rfl, Nat.le_of_ble_eq_true rfl⟩ ⟨Nat.le_of_ble_eq_true rfl, Nat.le_of_ble_eq_true rfl⟩ rfl (Nat.le_of_ble_eq_true rfl) dX8_at_54 (fun v_ f_ H locs hp_ hH hS => ?_)
            obtain ⟨rfl, ef_⟩ := hp_
            rw [ef_] at hH
            clear ef_
            refine W.eq (g2 := F0 m 57 ls [.int (nI ((gs i).2.1 (3 * a + b)))]) rfl ?_
            have hfr9 : hm_fr (mS m0 r) f fn192 := by
              rw [efn192, efn1]
              exact ((hm_fr.rf (S := mS m0 r)).up mS_0).up mS_0
            exact hm_iret hx hb hr hlocks hS hH (⟨Or.inl ⟨by rw [hb1]; (try rw [hix]); rw [hb191]; rfl, by rw [hix, ix_nI (by omega), ix_nI (by omega)], MW.mk hm193 ⟨⟨h208, h209, h210, h211, h212, h213, h214⟩, ⟨_, _, _, _, _, _, _, h215, h216, h217, h218, h219, h220, h221⟩, h194, ⟨h195, h196, h197, h198, h199, h200, h201, h202, h203⟩, h204, h205, h206, h207⟩⟩, hfr9.k⟩) (Nat.le_of_ble_eq_true rfl) (Nat.le_of_ble_eq_true rfl) dX8_at_57
  · rw [hb1] at efn1
    refine W.eq (g2 := F0 m 5 ls [.int 1]) (by rw [hb1]; rfl) ?_
    have hm1_ : fn1 m0 = some (eM r 1 (nI np) (nI ng) (nI nt) (nI kp) (nI rr) ck lim dz gd hih mih fh msh msm mso sp rf) := by rw [efn1]; exact hm_us
    have h30 : fn1 ((r 0)) = some (eI Γ 4 mon) := by rw [efn1]; exact (hm_un (hm_ne h0 hm0 (fun q => by cases q))).trans h0
    have h31 : fn1 ((r 1)) = some (eJ Γ 8 (fun i => b4 (gs i).2.1)) := by rw [efn1]; exact (hm_un (hm_ne hg1 hm0 (fun q => by cases q))).trans hg1
    have h32 : fn1 ((r 2)) = some (eI Γ 8 (fun i => nI (gs i).2.2.1)) := by rw [efn1]; exact (hm_un (hm_ne hg2 hm0 (fun q => by cases q))).trans hg2
    have h33 : fn1 ((r 3)) = some (eI Γ 8 (fun i => nI (gs i).1)) := by rw [efn1]; exact (hm_un (hm_ne hg3 hm0 (fun q => by cases q))).trans hg3
    have h34 : fn1 ((r 4)) = some (eI Γ 8 (fun i => (gs i).2.2.2.1)) := by rw [efn1]; exact (hm_un (hm_ne hg4 hm0 (fun q => by cases q))).trans hg4
    have h35 : fn1 ((r 5)) = some (eI Γ 8 (fun i => (gs i).2.2.2.2.1)) := by rw [efn1]; exact (hm_un (hm_ne hg5 hm0 (fun q => by cases q))).trans hg5
    have h36 : fn1 ((r 6)) = some (eI Γ 8 (fun i => (gs i).2.2.2.2.2.1)) := by rw [efn1]; exact (hm_un (hm_ne hg6 hm0 (fun q => by cases q))).trans hg6
    have h37 : fn1 ((r 7)) = some (eI Γ 8 (fun i => (gs i).2.2.2.2.2.2.1)) := by rw [efn1]; exact (hm_un (hm_ne hg7 hm0 (fun q => by cases q))).trans hg7
    have h38 : fn1 ((r 8)) = some (eI Γ 8 (fun i => (gs i).2.2.2.2.2.2.2.1)) := by rw [efn1]; exact (hm_un (hm_ne hg8 hm0 (fun q => by cases q))).trans hg8
    have h39 : fn1 ((r 9)) = some (eZ Γ 8 (fun i => bI (gs i).2.2.2.2.2.2.2.2)) := by rw [efn1]; exact (hm_un (hm_ne hg9 hm0 (fun q => by cases q))).trans hg9
    have h40 : fn1 ((r 10)) = some (eJ Γ 60 (fun i => b4 (ts i).2.1)) := by rw [efn1]; exact (hm_un (hm_ne ht10 hm0 (fun q => by cases q))).trans ht10
    have h41 : fn1 ((r 11)) = some (eI Γ 60 (fun i => nI (ts i).2.2.1)) := by rw [efn1]; exact (hm_un (hm_ne ht11 hm0 (fun q => by cases q))).trans ht11
    have h42 : fn1 ((r 12)) = some (eI Γ 60 (fun i => nI (ts i).1)) := by rw [efn1]; exact (hm_un (hm_ne ht12 hm0 (fun q => by cases q))).trans ht12
    have h43 : fn1 ((r 13)) = some (eI Γ 60 (fun i => (ts i).2.2.2)) := by rw [efn1]; exact (hm_un (hm_ne ht13 hm0 (fun q => by cases q))).trans ht13
    have h44 : fn1 ((r 14)) = some (eJ Γ 64 (fun j => (K j).1)) := by rw [efn1]; exact (hm_un (hm_ne hk0 hm0 (fun q => by cases q))).trans hk0
    have h45 : fn1 ((r 15)) = some (eI Γ 64 (fun j => (K j).2.1)) := by rw [efn1]; exact (hm_un (hm_ne hk1 hm0 (fun q => by cases q))).trans hk1
    have h46 : fn1 ((r 16)) = some (eI Γ 64 (fun j => (K j).2.2.1)) := by rw [efn1]; exact (hm_un (hm_ne hk2 hm0 (fun q => by cases q))).trans hk2
    have h47 : fn1 ((r 17)) = some (eI Γ 64 (fun j => (K j).2.2.2.1)) := by rw [efn1]; exact (hm_un (hm_ne hk3 hm0 (fun q => by cases q))).trans hk3
    have h48 : fn1 ((r 18)) = some (eI Γ 64 (fun j => (K j).2.2.2.2.1)) := by rw [efn1]; exact (hm_un (hm_ne hk4 hm0 (fun q => by cases q))).trans hk4
    have h49 : fn1 ((r 19)) = some (eI Γ 64 (fun j => (K j).2.2.2.2.2.1)) := by rw [efn1]; exact (hm_un (hm_ne hk5 hm0 (fun q => by cases q))).trans hk5
    have h50 : fn1 ((r 20)) = some (eI Γ 64 (fun j => (K j).2.2.2.2.2.2)) := by rw [efn1]; exact (hm_un (hm_ne hk6 hm0 (fun q => by cases q))).trans hk6
    have h51 : fn1 ((r 21)) = some (eJ Γ 6 pb) := by rw [efn1]; exact (hm_un (hm_ne hp0 hm0 (fun q => by cases q))).trans hp0
    have h52 : fn1 ((r 22)) = some (eI Γ 6 pz) := by rw [efn1]; exact (hm_un (hm_ne hp1 hm0 (fun q => by cases q))).trans hp1
    have h53 : fn1 ((r 23)) = some (eI Γ 6 pd) := by rw [efn1]; exact (hm_un (hm_ne hp2 hm0 (fun q => by cases q))).trans hp2
    have h54 : fn1 ((r 24)) = some (eI Γ 6 pn) := by rw [efn1]; exact (hm_un (hm_ne hp3 hm0 (fun q => by cases q))).trans hp3
    have h55 : fn1 ((r 25)) = some (eI Γ 6 pe) := by rw [efn1]; exact (hm_un (hm_ne hp4 hm0 (fun q => by cases q))).trans hp4
    have h56 : fn1 ((r 26)) = some (eI Γ 6 ph) := by rw [efn1]; exact (hm_un (hm_ne hp5 hm0 (fun q => by cases q))).trans hp5
    have h57 : fn1 ((r 27)) = some (eI Γ 6 pg) := by rw [efn1]; exact (hm_un (hm_ne hp6 hm0 (fun q => by cases q))).trans hp6
    refine lv_if_ne (tgt := 39) hx hb dX8_at_5 (by decide) (fun _ => ?_) (fun c226 => absurd c226 (by decide))
    refine lv_iconst (v := 0) hx hb dX8_at_39 (by decide) ?_
    refine lv_goto (tgt := 57) hx hb dX8_at_40 (by decide) ?_
    have hfr9 : hm_fr (mS m0 r) f fn1 := by
      rw [efn1]
      exact (hm_fr.rf (S := mS m0 r)).up mS_0
    exact hm_iret hx hb hr hlocks hS hH (⟨Or.inr ⟨by rw [hb1]; exact (show (1 : Int32) ≠ 0 by decide), ⟨_, rfl⟩, by rw [hb1]; exact MW.mk hm1_ ⟨⟨h44, h45, h46, h47, h48, h49, h50⟩, ⟨_, _, _, _, _, _, _, h51, h52, h53, h54, h55, h56, h57⟩, h30, ⟨h31, h32, h33, h34, h35, h36, h37, h38, h39⟩, h40, h41, h42, h43⟩⟩, hfr9.k⟩) (Nat.le_of_ble_eq_true rfl) (Nat.le_of_ble_eq_true rfl) dX8_at_57
set_option maxHeartbeats 4000000 in
set_option maxRecDepth 100000 in
theorem w_X8_canPush (Γ : Gm) (l : Launch) (m0 : Nat) (r : Nat → Nat) (th : Int32) (K : Nat → EV) (kp : Nat) (ck msh msm mso : Int32) (np : Nat) (mon : Nat → Int32) (ng : Nat) (gs : Nat → GS) (nt : Nat) (ts : Nat → TR) (lim : Int32) (rf sp : Int64) (rr : Nat) (v0 v1 : Int32) (f : Hm) (hM : MW Γ f m0 r th K kp ck msh msm mso np mon ng gs nt ts lim rf sp rr) (hnp : np ≤ 4) (hng : ng ≤ 8) (hnt : nt ≤ 60) (hr1 : 1 ≤ rr) (hrr : rr ≤ 64) (hkr : kp ≤ rr) (hrI : rI r) (hgs : GOK np ng gs) : Ct Γ l yX8_canPush cX8_canPush 3 (some .boolean) 4 0 0 [.ref m0, .int v0, .int v1] f (mP (if inB v0 (nI ng) then (if inB v1 4 then 0 else 2) else 1) (bI (goN (gs (ix v0)).2.1 (ix v1))) (mS m0 r) f (fun f' => MW Γ f' m0 r 0 K kp ck msh msm mso np mon ng gs nt ts lim rf sp rr) (fun f' => MW Γ f' m0 r ((if inB v0 (nI ng) then (if inB v1 4 then 0 else 2) else 1)) K kp ck msh msm mso np mon ng gs nt ts lim rf sp rr)) := by
  refine Ct_of (by decide +kernel) (Nat.le_of_ble_eq_true rfl) ?_
  intro p e s m args below meth c hx hb hr hml hown hin hlocks hts hH hO hK ls hl
  have hl : lv_has ls 3 [(0, .ref m0), (1, .int v0), (2, .int v1)] := hl
  have hS : va_S (gA Γ) s.heap s.heap [] := va_S.rf
  obtain ⟨⟨dz, gd, hih, mih, fh, hm0⟩, hR⟩ := id hM
  obtain ⟨⟨hk0, hk1, hk2, hk3, hk4, hk5, hk6⟩, ⟨pb, pz, pd, pn, pe, ph, pg, hp0, hp1, hp2, hp3, hp4, hp5, hp6⟩, h0, ⟨hg1, hg2, hg3, hg4, hg5, hg6, hg7, hg8, hg9⟩, ht10, ht11, ht12, ht13⟩ := id hR
  refine lv_aload_n hx hb dX8_canPush_0 rfl (lv_at hl 0 rfl) ?_
  refine lv_iload_n hx hb dX8_canPush_1 rfl (lv_at hl 1 rfl) ?_
  refine hm_callV (rest := []) (k := 2) q5_146 q5_148 q1_9 q5_149 q0_19 rfl nm_X8_noGame rfl hx hb hml hown hts hK hO hS hH hl.1 hm0 (c_X8_noGame Γ l m0 r th (nI np) (nI ng) (nI nt) (nI kp) (nI rr) ck lim dz gd hih mih fh msh msm mso sp rf v0 f hm0) ⟨Nat.le_of_ble_eq_true rfl, Nat.le_of_ble_eq_true rfl⟩ ⟨Nat.le_of_ble_eq_true rfl, Nat.le_of_ble_eq_true rfl⟩ rfl (Nat.le_of_ble_eq_true rfl) dX8_canPush_2 (fun v_ fn1 H locs hp_ hH hS => ?_)
  obtain ⟨rfl, efn1⟩ := hp_
  rcases bTF (inB v0 (nI ng)) with hb1 | hb1
  · rw [hb1] at efn1
    refine W.eq (g2 := F0 m 5 ls [.int 0]) (by rw [hb1]; rfl) ?_
    have hm1_ : fn1 m0 = some (eM r 0 (nI np) (nI ng) (nI nt) (nI kp) (nI rr) ck lim dz gd hih mih fh msh msm mso sp rf) := by rw [efn1]; exact hm_us
    have h2 : fn1 ((r 0)) = some (eI Γ 4 mon) := by rw [efn1]; exact (hm_un (hm_ne h0 hm0 (fun q => by cases q))).trans h0
    have h3 : fn1 ((r 1)) = some (eJ Γ 8 (fun i => b4 (gs i).2.1)) := by rw [efn1]; exact (hm_un (hm_ne hg1 hm0 (fun q => by cases q))).trans hg1
    have h4 : fn1 ((r 2)) = some (eI Γ 8 (fun i => nI (gs i).2.2.1)) := by rw [efn1]; exact (hm_un (hm_ne hg2 hm0 (fun q => by cases q))).trans hg2
    have h5 : fn1 ((r 3)) = some (eI Γ 8 (fun i => nI (gs i).1)) := by rw [efn1]; exact (hm_un (hm_ne hg3 hm0 (fun q => by cases q))).trans hg3
    have h6 : fn1 ((r 4)) = some (eI Γ 8 (fun i => (gs i).2.2.2.1)) := by rw [efn1]; exact (hm_un (hm_ne hg4 hm0 (fun q => by cases q))).trans hg4
    have h7 : fn1 ((r 5)) = some (eI Γ 8 (fun i => (gs i).2.2.2.2.1)) := by rw [efn1]; exact (hm_un (hm_ne hg5 hm0 (fun q => by cases q))).trans hg5
    have h8 : fn1 ((r 6)) = some (eI Γ 8 (fun i => (gs i).2.2.2.2.2.1)) := by rw [efn1]; exact (hm_un (hm_ne hg6 hm0 (fun q => by cases q))).trans hg6
    have h9 : fn1 ((r 7)) = some (eI Γ 8 (fun i => (gs i).2.2.2.2.2.2.1)) := by rw [efn1]; exact (hm_un (hm_ne hg7 hm0 (fun q => by cases q))).trans hg7
    have h10 : fn1 ((r 8)) = some (eI Γ 8 (fun i => (gs i).2.2.2.2.2.2.2.1)) := by rw [efn1]; exact (hm_un (hm_ne hg8 hm0 (fun q => by cases q))).trans hg8
    have h11 : fn1 ((r 9)) = some (eZ Γ 8 (fun i => bI (gs i).2.2.2.2.2.2.2.2)) := by rw [efn1]; exact (hm_un (hm_ne hg9 hm0 (fun q => by cases q))).trans hg9
    have h12 : fn1 ((r 10)) = some (eJ Γ 60 (fun i => b4 (ts i).2.1)) := by rw [efn1]; exact (hm_un (hm_ne ht10 hm0 (fun q => by cases q))).trans ht10
    have h13 : fn1 ((r 11)) = some (eI Γ 60 (fun i => nI (ts i).2.2.1)) := by rw [efn1]; exact (hm_un (hm_ne ht11 hm0 (fun q => by cases q))).trans ht11
    have h14 : fn1 ((r 12)) = some (eI Γ 60 (fun i => nI (ts i).1)) := by rw [efn1]; exact (hm_un (hm_ne ht12 hm0 (fun q => by cases q))).trans ht12
    have h15 : fn1 ((r 13)) = some (eI Γ 60 (fun i => (ts i).2.2.2)) := by rw [efn1]; exact (hm_un (hm_ne ht13 hm0 (fun q => by cases q))).trans ht13
    have h16 : fn1 ((r 14)) = some (eJ Γ 64 (fun j => (K j).1)) := by rw [efn1]; exact (hm_un (hm_ne hk0 hm0 (fun q => by cases q))).trans hk0
    have h17 : fn1 ((r 15)) = some (eI Γ 64 (fun j => (K j).2.1)) := by rw [efn1]; exact (hm_un (hm_ne hk1 hm0 (fun q => by cases q))).trans hk1
    have h18 : fn1 ((r 16)) = some (eI Γ 64 (fun j => (K j).2.2.1)) := by rw [efn1]; exact (hm_un (hm_ne hk2 hm0 (fun q => by cases q))).trans hk2
    have h19 : fn1 ((r 17)) = some (eI Γ 64 (fun j => (K j).2.2.2.1)) := by rw [efn1]; exact (hm_un (hm_ne hk3 hm0 (fun q => by cases q))).trans hk3
    have h20 : fn1 ((r 18)) = some (eI Γ 64 (fun j => (K j).2.2.2.2.1)) := by rw [efn1]; exact (hm_un (hm_ne hk4 hm0 (fun q => by cases q))).trans hk4
    have h21 : fn1 ((r 19)) = some (eI Γ 64 (fun j => (K j).2.2.2.2.2.1)) := by rw [efn1]; exact (hm_un (hm_ne hk5 hm0 (fun q => by cases q))).trans hk5
    have h22 : fn1 ((r 20)) = some (eI Γ 64 (fun j => (K j).2.2.2.2.2.2)) := by rw [efn1]; exact (hm_un (hm_ne hk6 hm0 (fun q => by cases q))).trans hk6
    have h23 : fn1 ((r 21)) = some (eJ Γ 6 pb) := by rw [efn1]; exact (hm_un (hm_ne hp0 hm0 (fun q => by cases q))).trans hp0
    have h24 : fn1 ((r 22)) = some (eI Γ 6 pz) := by rw [efn1]; exact (hm_un (hm_ne hp1 hm0 (fun q => by cases q))).trans hp1
    have h25 : fn1 ((r 23)) = some (eI Γ 6 pd) := by rw [efn1]; exact (hm_un (hm_ne hp2 hm0 (fun q => by cases q))).trans hp2
    have h26 : fn1 ((r 24)) = some (eI Γ 6 pn) := by rw [efn1]; exact (hm_un (hm_ne hp3 hm0 (fun q => by cases q))).trans hp3
    have h27 : fn1 ((r 25)) = some (eI Γ 6 pe) := by rw [efn1]; exact (hm_un (hm_ne hp4 hm0 (fun q => by cases q))).trans hp4
    have h28 : fn1 ((r 26)) = some (eI Γ 6 ph) := by rw [efn1]; exact (hm_un (hm_ne hp5 hm0 (fun q => by cases q))).trans hp5
    have h29 : fn1 ((r 27)) = some (eI Γ 6 pg) := by rw [efn1]; exact (hm_un (hm_ne hp6 hm0 (fun q => by cases q))).trans hp6
    obtain ⟨i, hi, rfl⟩ := (inB_iff (by omega)).mp hb1
    obtain ⟨hgo, hgw, hgz⟩ := hgs i hi
    have hi8 : i < 8 := by omega
    have hix : ix (nI i) = i := ix_nI (by omega)
    have ht15 : tl 15 (gs i).2.1 := tl_mono (tl12 (by omega)) (by decide)
    refine lv_if_ne (tgt := 48) hx hb dX8_canPush_5 (by decide) (fun c58 => absurd (by decide) c58) (fun _ => ?_)
    refine lv_aload_n hx hb dX8_canPush_8 rfl (lv_at hl 0 rfl) ?_
    refine lv_iload_n hx hb dX8_canPush_9 rfl (lv_at hl 2 rfl) ?_
    refine lv_if_lt (tgt := 22) hx hb dX8_canPush_10 (by decide) (fun c59 => ?_) (fun c59 => ?_)
    · refine lv_iconst (v := 0) hx hb dX8_canPush_22 (by decide) ?_
      refine lv_iconst (v := 2) hx hb dX8_canPush_23 (by decide) ?_
      have hb60 : (inB v1 4) = false := (by unfold inB; rw [decide_eq_true c59]; rfl)
      refine W.eq (g2 := F0 m 24 ls [.int 2, .int (bI (inB v1 4)), .ref m0]) (by rw [hb60]; rfl) ?_
      refine hm_callV (rest := []) (k := 1) q5_119 q5_121 q1_9 q5_122 q0_17 rfl nm_X8_no rfl hx hb hml hown hts hK hO hS hH hl.1 hm1_ (c_X8_no Γ l m0 r 0 (nI np) (nI ng) (nI nt) (nI kp) (nI rr) ck lim dz gd hih mih fh msh msm mso sp rf (inB v1 4) 2 fn1 hm1_) ⟨Nat.le_of_ble_eq_true rfl, Nat.le_of_ble_eq_true rfl⟩ ⟨Nat.le_of_ble_eq_true rfl, Nat.le_of_ble_eq_true rfl⟩ rfl (Nat.le_of_ble_eq_true rfl) dX8_canPush_24 (fun v_ fn61 H locs hp_ hH hS => ?_)
      obtain ⟨rfl, efn61⟩ := hp_
      rw [hb60] at efn61
      refine W.eq (g2 := F0 m 27 ls [.int 1]) (by rw [hb60]; rfl) ?_
      have hm62 : fn61 m0 = some (eM r 2 (nI np) (nI ng) (nI nt) (nI kp) (nI rr) ck lim dz gd hih mih fh msh msm mso sp rf) := by rw [efn61]; exact hm_us
      have h63 : fn61 ((r 0)) = some (eI Γ 4 mon) := by rw [efn61]; exact (hm_un (hm_ne h2 hm1_ (fun q => by cases q))).trans h2
      have h64 : fn61 ((r 1)) = some (eJ Γ 8 (fun i => b4 (gs i).2.1)) := by rw [efn61]; exact (hm_un (hm_ne h3 hm1_ (fun q => by cases q))).trans h3
      have h65 : fn61 ((r 2)) = some (eI Γ 8 (fun i => nI (gs i).2.2.1)) := by rw [efn61]; exact (hm_un (hm_ne h4 hm1_ (fun q => by cases q))).trans h4
      have h66 : fn61 ((r 3)) = some (eI Γ 8 (fun i => nI (gs i).1)) := by rw [efn61]; exact (hm_un (hm_ne h5 hm1_ (fun q => by cases q))).trans h5
      have h67 : fn61 ((r 4)) = some (eI Γ 8 (fun i => (gs i).2.2.2.1)) := by rw [efn61]; exact (hm_un (hm_ne h6 hm1_ (fun q => by cases q))).trans h6
      have h68 : fn61 ((r 5)) = some (eI Γ 8 (fun i => (gs i).2.2.2.2.1)) := by rw [efn61]; exact (hm_un (hm_ne h7 hm1_ (fun q => by cases q))).trans h7
      have h69 : fn61 ((r 6)) = some (eI Γ 8 (fun i => (gs i).2.2.2.2.2.1)) := by rw [efn61]; exact (hm_un (hm_ne h8 hm1_ (fun q => by cases q))).trans h8
      have h70 : fn61 ((r 7)) = some (eI Γ 8 (fun i => (gs i).2.2.2.2.2.2.1)) := by rw [efn61]; exact (hm_un (hm_ne h9 hm1_ (fun q => by cases q))).trans h9
      have h71 : fn61 ((r 8)) = some (eI Γ 8 (fun i => (gs i).2.2.2.2.2.2.2.1)) := by rw [efn61]; exact (hm_un (hm_ne h10 hm1_ (fun q => by cases q))).trans h10
      have h72 : fn61 ((r 9)) = some (eZ Γ 8 (fun i => bI (gs i).2.2.2.2.2.2.2.2)) := by rw [efn61]; exact (hm_un (hm_ne h11 hm1_ (fun q => by cases q))).trans h11
      have h73 : fn61 ((r 10)) = some (eJ Γ 60 (fun i => b4 (ts i).2.1)) := by rw [efn61]; exact (hm_un (hm_ne h12 hm1_ (fun q => by cases q))).trans h12
      have h74 : fn61 ((r 11)) = some (eI Γ 60 (fun i => nI (ts i).2.2.1)) := by rw [efn61]; exact (hm_un (hm_ne h13 hm1_ (fun q => by cases q))).trans h13
      have h75 : fn61 ((r 12)) = some (eI Γ 60 (fun i => nI (ts i).1)) := by rw [efn61]; exact (hm_un (hm_ne h14 hm1_ (fun q => by cases q))).trans h14
      have h76 : fn61 ((r 13)) = some (eI Γ 60 (fun i => (ts i).2.2.2)) := by rw [efn61]; exact (hm_un (hm_ne h15 hm1_ (fun q => by cases q))).trans h15
      have h77 : fn61 ((r 14)) = some (eJ Γ 64 (fun j => (K j).1)) := by rw [efn61]; exact (hm_un (hm_ne h16 hm1_ (fun q => by cases q))).trans h16
      have h78 : fn61 ((r 15)) = some (eI Γ 64 (fun j => (K j).2.1)) := by rw [efn61]; exact (hm_un (hm_ne h17 hm1_ (fun q => by cases q))).trans h17
      have h79 : fn61 ((r 16)) = some (eI Γ 64 (fun j => (K j).2.2.1)) := by rw [efn61]; exact (hm_un (hm_ne h18 hm1_ (fun q => by cases q))).trans h18
      have h80 : fn61 ((r 17)) = some (eI Γ 64 (fun j => (K j).2.2.2.1)) := by rw [efn61]; exact (hm_un (hm_ne h19 hm1_ (fun q => by cases q))).trans h19
      have h81 : fn61 ((r 18)) = some (eI Γ 64 (fun j => (K j).2.2.2.2.1)) := by rw [efn61]; exact (hm_un (hm_ne h20 hm1_ (fun q => by cases q))).trans h20
      have h82 : fn61 ((r 19)) = some (eI Γ 64 (fun j => (K j).2.2.2.2.2.1)) := by rw [efn61]; exact (hm_un (hm_ne h21 hm1_ (fun q => by cases q))).trans h21
      have h83 : fn61 ((r 20)) = some (eI Γ 64 (fun j => (K j).2.2.2.2.2.2)) := by rw [efn61]; exact (hm_un (hm_ne h22 hm1_ (fun q => by cases q))).trans h22
      have h84 : fn61 ((r 21)) = some (eJ Γ 6 pb) := by rw [efn61]; exact (hm_un (hm_ne h23 hm1_ (fun q => by cases q))).trans h23
      have h85 : fn61 ((r 22)) = some (eI Γ 6 pz) := by rw [efn61]; exact (hm_un (hm_ne h24 hm1_ (fun q => by cases q))).trans h24
      have h86 : fn61 ((r 23)) = some (eI Γ 6 pd) := by rw [efn61]; exact (hm_un (hm_ne h25 hm1_ (fun q => by cases q))).trans h25
      have h87 : fn61 ((r 24)) = some (eI Γ 6 pn) := by rw [efn61]; exact (hm_un (hm_ne h26 hm1_ (fun q => by cases q))).trans h26
      have h88 : fn61 ((r 25)) = some (eI Γ 6 pe) := by rw [efn61]; exact (hm_un (hm_ne h27 hm1_ (fun q => by cases q))).trans h27
      have h89 : fn61 ((r 26)) = some (eI Γ 6 ph) := by rw [efn61]; exact (hm_un (hm_ne h28 hm1_ (fun q => by cases q))).trans h28
      have h90 : fn61 ((r 27)) = some (eI Γ 6 pg) := by rw [efn61]; exact (hm_un (hm_ne h29 hm1_ (fun q => by cases q))).trans h29
      refine lv_if_ne (tgt := 48) hx hb dX8_canPush_27 (by decide) (fun _ => ?_) (fun c91 => absurd c91 (by decide))
      refine lv_iconst (v := 0) hx hb dX8_canPush_48 (by decide) ?_
      have hfr9 : hm_fr (mS m0 r) f fn61 := by
        rw [efn61, efn1]
        exact ((hm_fr.rf (S := mS m0 r)).up mS_0).up mS_0
      exact hm_zret hx hb hr rfl hlocks hS hH (⟨Or.inr ⟨by rw [hb1]; (try rw [hix]); rw [hb60]; exact (show (2 : Int32) ≠ 0 by decide), ⟨_, rfl⟩, by rw [hb1]; (try rw [hix]); rw [hb60]; exact MW.mk hm62 ⟨⟨h77, h78, h79, h80, h81, h82, h83⟩, ⟨_, _, _, _, _, _, _, h84, h85, h86, h87, h88, h89, h90⟩, h63, ⟨h64, h65, h66, h67, h68, h69, h70, h71, h72⟩, h73, h74, h75, h76⟩⟩, hfr9.k⟩) (Nat.le_of_ble_eq_true rfl) (Nat.le_of_ble_eq_true rfl) dX8_canPush_49
    · refine lv_iload_n hx hb dX8_canPush_13 rfl (lv_at hl 2 rfl) ?_
      refine lv_iconst (v := 4) hx hb dX8_canPush_14 (by decide) ?_
      refine lv_icmp_ge (tgt := 22) hx hb dX8_canPush_15 (by decide) (fun c92 => ?_) (fun c92 => ?_)
      · refine lv_iconst (v := 0) hx hb dX8_canPush_22 (by decide) ?_
        refine lv_iconst (v := 2) hx hb dX8_canPush_23 (by decide) ?_
        have hb93 : (inB v1 4) = false := (by unfold inB; rw [decide_eq_false (Int32.not_lt.mpr c92), Bool.and_false])
        refine W.eq (g2 := F0 m 24 ls [.int 2, .int (bI (inB v1 4)), .ref m0]) (by rw [hb93]; rfl) ?_
        refine hm_callV (rest := []) (k := 1) q5_119 q5_121 q1_9 q5_122 q0_17 rfl nm_X8_no rfl hx hb hml hown hts hK hO hS hH hl.1 hm1_ (c_X8_no Γ l m0 r 0 (nI np) (nI ng) (nI nt) (nI kp) (nI rr) ck lim dz gd hih mih fh msh msm mso sp rf (inB v1 4) 2 fn1 hm1_) ⟨Nat.le_of_ble_eq_true rfl, Nat.le_of_ble_eq_true rfl⟩ ⟨Nat.le_of_ble_eq_true rfl, Nat.le_of_ble_eq_true rfl⟩ rfl (Nat.le_of_ble_eq_true rfl) dX8_canPush_24 (fun v_ fn94 H locs hp_ hH hS => ?_)
        obtain ⟨rfl, efn94⟩ := hp_
        rw [hb93] at efn94
        refine W.eq (g2 := F0 m 27 ls [.int 1]) (by rw [hb93]; rfl) ?_
        have hm95 : fn94 m0 = some (eM r 2 (nI np) (nI ng) (nI nt) (nI kp) (nI rr) ck lim dz gd hih mih fh msh msm mso sp rf) := by rw [efn94]; exact hm_us
        have h96 : fn94 ((r 0)) = some (eI Γ 4 mon) := by rw [efn94]; exact (hm_un (hm_ne h2 hm1_ (fun q => by cases q))).trans h2
        have h97 : fn94 ((r 1)) = some (eJ Γ 8 (fun i => b4 (gs i).2.1)) := by rw [efn94]; exact (hm_un (hm_ne h3 hm1_ (fun q => by cases q))).trans h3
        have h98 : fn94 ((r 2)) = some (eI Γ 8 (fun i => nI (gs i).2.2.1)) := by rw [efn94]; exact (hm_un (hm_ne h4 hm1_ (fun q => by cases q))).trans h4
        have h99 : fn94 ((r 3)) = some (eI Γ 8 (fun i => nI (gs i).1)) := by rw [efn94]; exact (hm_un (hm_ne h5 hm1_ (fun q => by cases q))).trans h5
        have h100 : fn94 ((r 4)) = some (eI Γ 8 (fun i => (gs i).2.2.2.1)) := by rw [efn94]; exact (hm_un (hm_ne h6 hm1_ (fun q => by cases q))).trans h6
        have h101 : fn94 ((r 5)) = some (eI Γ 8 (fun i => (gs i).2.2.2.2.1)) := by rw [efn94]; exact (hm_un (hm_ne h7 hm1_ (fun q => by cases q))).trans h7
        have h102 : fn94 ((r 6)) = some (eI Γ 8 (fun i => (gs i).2.2.2.2.2.1)) := by rw [efn94]; exact (hm_un (hm_ne h8 hm1_ (fun q => by cases q))).trans h8
        have h103 : fn94 ((r 7)) = some (eI Γ 8 (fun i => (gs i).2.2.2.2.2.2.1)) := by rw [efn94]; exact (hm_un (hm_ne h9 hm1_ (fun q => by cases q))).trans h9
        have h104 : fn94 ((r 8)) = some (eI Γ 8 (fun i => (gs i).2.2.2.2.2.2.2.1)) := by rw [efn94]; exact (hm_un (hm_ne h10 hm1_ (fun q => by cases q))).trans h10
        have h105 : fn94 ((r 9)) = some (eZ Γ 8 (fun i => bI (gs i).2.2.2.2.2.2.2.2)) := by rw [efn94]; exact (hm_un (hm_ne h11 hm1_ (fun q => by cases q))).trans h11
        have h106 : fn94 ((r 10)) = some (eJ Γ 60 (fun i => b4 (ts i).2.1)) := by rw [efn94]; exact (hm_un (hm_ne h12 hm1_ (fun q => by cases q))).trans h12
        have h107 : fn94 ((r 11)) = some (eI Γ 60 (fun i => nI (ts i).2.2.1)) := by rw [efn94]; exact (hm_un (hm_ne h13 hm1_ (fun q => by cases q))).trans h13
        have h108 : fn94 ((r 12)) = some (eI Γ 60 (fun i => nI (ts i).1)) := by rw [efn94]; exact (hm_un (hm_ne h14 hm1_ (fun q => by cases q))).trans h14
        have h109 : fn94 ((r 13)) = some (eI Γ 60 (fun i => (ts i).2.2.2)) := by rw [efn94]; exact (hm_un (hm_ne h15 hm1_ (fun q => by cases q))).trans h15
        have h110 : fn94 ((r 14)) = some (eJ Γ 64 (fun j => (K j).1)) := by rw [efn94]; exact (hm_un (hm_ne h16 hm1_ (fun q => by cases q))).trans h16
        have h111 : fn94 ((r 15)) = some (eI Γ 64 (fun j => (K j).2.1)) := by rw [efn94]; exact (hm_un (hm_ne h17 hm1_ (fun q => by cases q))).trans h17
        have h112 : fn94 ((r 16)) = some (eI Γ 64 (fun j => (K j).2.2.1)) := by rw [efn94]; exact (hm_un (hm_ne h18 hm1_ (fun q => by cases q))).trans h18
        have h113 : fn94 ((r 17)) = some (eI Γ 64 (fun j => (K j).2.2.2.1)) := by rw [efn94]; exact (hm_un (hm_ne h19 hm1_ (fun q => by cases q))).trans h19
        have h114 : fn94 ((r 18)) = some (eI Γ 64 (fun j => (K j).2.2.2.2.1)) := by rw [efn94]; exact (hm_un (hm_ne h20 hm1_ (fun q => by cases q))).trans h20
        have h115 : fn94 ((r 19)) = some (eI Γ 64 (fun j => (K j).2.2.2.2.2.1)) := by rw [efn94]; exact (hm_un (hm_ne h21 hm1_ (fun q => by cases q))).trans h21
        have h116 : fn94 ((r 20)) = some (eI Γ 64 (fun j => (K j).2.2.2.2.2.2)) := by rw [efn94]; exact (hm_un (hm_ne h22 hm1_ (fun q => by cases q))).trans h22
        have h117 : fn94 ((r 21)) = some (eJ Γ 6 pb) := by rw [efn94]; exact (hm_un (hm_ne h23 hm1_ (fun q => by cases q))).trans h23
        have h118 : fn94 ((r 22)) = some (eI Γ 6 pz) := by rw [efn94]; exact (hm_un (hm_ne h24 hm1_ (fun q => by cases q))).trans h24
        have h119 : fn94 ((r 23)) = some (eI Γ 6 pd) := by rw [efn94]; exact (hm_un (hm_ne h25 hm1_ (fun q => by cases q))).trans h25
        have h120 : fn94 ((r 24)) = some (eI Γ 6 pn) := by rw [efn94]; exact (hm_un (hm_ne h26 hm1_ (fun q => by cases q))).trans h26
        have h121 : fn94 ((r 25)) = some (eI Γ 6 pe) := by rw [efn94]; exact (hm_un (hm_ne h27 hm1_ (fun q => by cases q))).trans h27
        have h122 : fn94 ((r 26)) = some (eI Γ 6 ph) := by rw [efn94]; exact (hm_un (hm_ne h28 hm1_ (fun q => by cases q))).trans h28
        have h123 : fn94 ((r 27)) = some (eI Γ 6 pg) := by rw [efn94]; exact (hm_un (hm_ne h29 hm1_ (fun q => by cases q))).trans h29
        refine lv_if_ne (tgt := 48) hx hb dX8_canPush_27 (by decide) (fun _ => ?_) (fun c124 => absurd c124 (by decide))
        refine lv_iconst (v := 0) hx hb dX8_canPush_48 (by decide) ?_
        have hfr9 : hm_fr (mS m0 r) f fn94 := by
          rw [efn94, efn1]
          exact ((hm_fr.rf (S := mS m0 r)).up mS_0).up mS_0
        exact hm_zret hx hb hr rfl hlocks hS hH (⟨Or.inr ⟨by rw [hb1]; (try rw [hix]); rw [hb93]; exact (show (2 : Int32) ≠ 0 by decide), ⟨_, rfl⟩, by rw [hb1]; (try rw [hix]); rw [hb93]; exact MW.mk hm95 ⟨⟨h110, h111, h112, h113, h114, h115, h116⟩, ⟨_, _, _, _, _, _, _, h117, h118, h119, h120, h121, h122, h123⟩, h96, ⟨h97, h98, h99, h100, h101, h102, h103, h104, h105⟩, h106, h107, h108, h109⟩⟩, hfr9.k⟩) (Nat.le_of_ble_eq_true rfl) (Nat.le_of_ble_eq_true rfl) dX8_canPush_49
      · refine lv_iconst (v := 1) hx hb dX8_canPush_18 (by decide) ?_
        refine lv_goto (tgt := 23) hx hb dX8_canPush_19 (by decide) ?_
        refine lv_iconst (v := 2) hx hb dX8_canPush_23 (by decide) ?_
        have hb125 : (inB v1 4) = true := (by unfold inB; rw [decide_eq_false c59, decide_eq_true (Int32.not_le.mp c92)]; rfl)
        refine W.eq (g2 := F0 m 24 ls [.int 2, .int (bI (inB v1 4)), .ref m0]) (by rw [hb125]; rfl) ?_
        refine hm_callV (rest := []) (k := 1) q5_119 q5_121 q1_9 q5_122 q0_17 rfl nm_X8_no rfl hx hb hml hown hts hK hO hS hH hl.1 hm1_ (c_X8_no Γ l m0 r 0 (nI np) (nI ng) (nI nt) (nI kp) (nI rr) ck lim dz gd hih mih fh msh msm mso sp rf (inB v1 4) 2 fn1 hm1_) ⟨Nat.le_of_ble_eq_true rfl, Nat.le_of_ble_eq_true rfl⟩ ⟨Nat.le_of_ble_eq_true rfl, Nat.le_of_ble_eq_true rfl⟩ rfl (Nat.le_of_ble_eq_true rfl) dX8_canPush_24 (fun v_ fn126 H locs hp_ hH hS => ?_)
        obtain ⟨rfl, efn126⟩ := hp_
        rw [hb125] at efn126
        refine W.eq (g2 := F0 m 27 ls [.int 0]) (by rw [hb125]; rfl) ?_
        have hm127 : fn126 m0 = some (eM r 0 (nI np) (nI ng) (nI nt) (nI kp) (nI rr) ck lim dz gd hih mih fh msh msm mso sp rf) := by rw [efn126]; exact hm_us
        have h128 : fn126 ((r 0)) = some (eI Γ 4 mon) := by rw [efn126]; exact (hm_un (hm_ne h2 hm1_ (fun q => by cases q))).trans h2
        have h129 : fn126 ((r 1)) = some (eJ Γ 8 (fun i => b4 (gs i).2.1)) := by rw [efn126]; exact (hm_un (hm_ne h3 hm1_ (fun q => by cases q))).trans h3
        have h130 : fn126 ((r 2)) = some (eI Γ 8 (fun i => nI (gs i).2.2.1)) := by rw [efn126]; exact (hm_un (hm_ne h4 hm1_ (fun q => by cases q))).trans h4
        have h131 : fn126 ((r 3)) = some (eI Γ 8 (fun i => nI (gs i).1)) := by rw [efn126]; exact (hm_un (hm_ne h5 hm1_ (fun q => by cases q))).trans h5
        have h132 : fn126 ((r 4)) = some (eI Γ 8 (fun i => (gs i).2.2.2.1)) := by rw [efn126]; exact (hm_un (hm_ne h6 hm1_ (fun q => by cases q))).trans h6
        have h133 : fn126 ((r 5)) = some (eI Γ 8 (fun i => (gs i).2.2.2.2.1)) := by rw [efn126]; exact (hm_un (hm_ne h7 hm1_ (fun q => by cases q))).trans h7
        have h134 : fn126 ((r 6)) = some (eI Γ 8 (fun i => (gs i).2.2.2.2.2.1)) := by rw [efn126]; exact (hm_un (hm_ne h8 hm1_ (fun q => by cases q))).trans h8
        have h135 : fn126 ((r 7)) = some (eI Γ 8 (fun i => (gs i).2.2.2.2.2.2.1)) := by rw [efn126]; exact (hm_un (hm_ne h9 hm1_ (fun q => by cases q))).trans h9
        have h136 : fn126 ((r 8)) = some (eI Γ 8 (fun i => (gs i).2.2.2.2.2.2.2.1)) := by rw [efn126]; exact (hm_un (hm_ne h10 hm1_ (fun q => by cases q))).trans h10
        have h137 : fn126 ((r 9)) = some (eZ Γ 8 (fun i => bI (gs i).2.2.2.2.2.2.2.2)) := by rw [efn126]; exact (hm_un (hm_ne h11 hm1_ (fun q => by cases q))).trans h11
        have h138 : fn126 ((r 10)) = some (eJ Γ 60 (fun i => b4 (ts i).2.1)) := by rw [efn126]; exact (hm_un (hm_ne h12 hm1_ (fun q => by cases q))).trans h12
        have h139 : fn126 ((r 11)) = some (eI Γ 60 (fun i => nI (ts i).2.2.1)) := by rw [efn126]; exact (hm_un (hm_ne h13 hm1_ (fun q => by cases q))).trans h13
        have h140 : fn126 ((r 12)) = some (eI Γ 60 (fun i => nI (ts i).1)) := by rw [efn126]; exact (hm_un (hm_ne h14 hm1_ (fun q => by cases q))).trans h14
        have h141 : fn126 ((r 13)) = some (eI Γ 60 (fun i => (ts i).2.2.2)) := by rw [efn126]; exact (hm_un (hm_ne h15 hm1_ (fun q => by cases q))).trans h15
        have h142 : fn126 ((r 14)) = some (eJ Γ 64 (fun j => (K j).1)) := by rw [efn126]; exact (hm_un (hm_ne h16 hm1_ (fun q => by cases q))).trans h16
        have h143 : fn126 ((r 15)) = some (eI Γ 64 (fun j => (K j).2.1)) := by rw [efn126]; exact (hm_un (hm_ne h17 hm1_ (fun q => by cases q))).trans h17
        have h144 : fn126 ((r 16)) = some (eI Γ 64 (fun j => (K j).2.2.1)) := by rw [efn126]; exact (hm_un (hm_ne h18 hm1_ (fun q => by cases q))).trans h18
        have h145 : fn126 ((r 17)) = some (eI Γ 64 (fun j => (K j).2.2.2.1)) := by rw [efn126]; exact (hm_un (hm_ne h19 hm1_ (fun q => by cases q))).trans h19
        have h146 : fn126 ((r 18)) = some (eI Γ 64 (fun j => (K j).2.2.2.2.1)) := by rw [efn126]; exact (hm_un (hm_ne h20 hm1_ (fun q => by cases q))).trans h20
        have h147 : fn126 ((r 19)) = some (eI Γ 64 (fun j => (K j).2.2.2.2.2.1)) := by rw [efn126]; exact (hm_un (hm_ne h21 hm1_ (fun q => by cases q))).trans h21
        have h148 : fn126 ((r 20)) = some (eI Γ 64 (fun j => (K j).2.2.2.2.2.2)) := by rw [efn126]; exact (hm_un (hm_ne h22 hm1_ (fun q => by cases q))).trans h22
        have h149 : fn126 ((r 21)) = some (eJ Γ 6 pb) := by rw [efn126]; exact (hm_un (hm_ne h23 hm1_ (fun q => by cases q))).trans h23
        have h150 : fn126 ((r 22)) = some (eI Γ 6 pz) := by rw [efn126]; exact (hm_un (hm_ne h24 hm1_ (fun q => by cases q))).trans h24
        have h151 : fn126 ((r 23)) = some (eI Γ 6 pd) := by rw [efn126]; exact (hm_un (hm_ne h25 hm1_ (fun q => by cases q))).trans h25
        have h152 : fn126 ((r 24)) = some (eI Γ 6 pn) := by rw [efn126]; exact (hm_un (hm_ne h26 hm1_ (fun q => by cases q))).trans h26
        have h153 : fn126 ((r 25)) = some (eI Γ 6 pe) := by rw [efn126]; exact (hm_un (hm_ne h27 hm1_ (fun q => by cases q))).trans h27
        have h154 : fn126 ((r 26)) = some (eI Γ 6 ph) := by rw [efn126]; exact (hm_un (hm_ne h28 hm1_ (fun q => by cases q))).trans h28
        have h155 : fn126 ((r 27)) = some (eI Γ 6 pg) := by rw [efn126]; exact (hm_un (hm_ne h29 hm1_ (fun q => by cases q))).trans h29
        refine lv_if_ne (tgt := 48) hx hb dX8_canPush_27 (by decide) (fun c156 => absurd (by decide) c156) (fun _ => ?_)
        obtain ⟨to, hto, rfl⟩ := rng_in (n := 4) c59 (Int32.not_le.mp c92) (by decide)
        have hit : ix (nI to) = to := ix_nI (by omega)
        refine lv_aload_n hx hb dX8_canPush_30 rfl (lv_at hl 0 rfl) ?_
        refine lv_aload_n hx hb dX8_canPush_31 rfl (lv_at hl 0 rfl) ?_
        refine gf_X8_13 hx hb hts hown hK hH hm127 rfl dX8_canPush_32 ?_
        refine lv_iload_n hx hb dX8_canPush_35 rfl (lv_at hl 1 rfl) ?_
        refine hm_lald hx hb hK hH h129 (vp_in_nI hi8 (by decide)) dX8_canPush_36 ?_
        refine lv_topl (fun v157 ev157 => ?_)
        replace ev157 : v157 = b4 (gs i).2.1 := ev157.trans (by show b4 (gs (nI i).toNatClampNeg).2.1 = _; rw [nI_clamp (n := i) (by omega)])
        subst ev157
        refine lv_iload_n hx hb dX8_canPush_37 rfl (lv_at hl 2 rfl) ?_
        refine hm_callV (rest := []) (k := 3) q5_150 q5_152 q1_9 q5_153 q0_20 rfl nm_X8_can rfl hx hb hml hown hts hK hO hS hH hl.1 hm127 (c_X8_can Γ l m0 r 0 (nI np) (nI ng) (nI nt) (nI kp) (nI rr) ck lim dz gd hih mih fh msh msm mso sp rf (gs i).2.1 to fn126 hm127 ht15 hto) ⟨Nat.le_of_ble_eq_true rfl, Nat.le_of_ble_eq_true rfl⟩ ⟨Nat.le_of_ble_eq_true rfl, Nat.le_of_ble_eq_true rfl⟩ rfl (Nat.le_of_ble_eq_true rfl) dX8_canPush_38 (fun v_ fn158 H locs hp_ hH hS => ?_)
        obtain ⟨rfl, efn158⟩ := hp_
        refine W.eq (g2 := F0 m 41 ls [.int (bI (goN (gs i).2.1 to))]) rfl ?_
        have hmfn158 : fn158 m0 = some (eM r 0 (nI np) (nI ng) (nI nt) (nI kp) (nI rr) ck lim dz (nI (gainT (gs i).2.1 to)) hih mih fh msh msm mso sp rf) := by rw [efn158]; exact hm_us
        have h159 : fn158 ((r 0)) = some (eI Γ 4 mon) := by rw [efn158]; exact (hm_un (hm_ne h128 hm127 (fun q => by cases q))).trans h128
        have h160 : fn158 ((r 1)) = some (eJ Γ 8 (fun i => b4 (gs i).2.1)) := by rw [efn158]; exact (hm_un (hm_ne h129 hm127 (fun q => by cases q))).trans h129
        have h161 : fn158 ((r 2)) = some (eI Γ 8 (fun i => nI (gs i).2.2.1)) := by rw [efn158]; exact (hm_un (hm_ne h130 hm127 (fun q => by cases q))).trans h130
        have h162 : fn158 ((r 3)) = some (eI Γ 8 (fun i => nI (gs i).1)) := by rw [efn158]; exact (hm_un (hm_ne h131 hm127 (fun q => by cases q))).trans h131
        have h163 : fn158 ((r 4)) = some (eI Γ 8 (fun i => (gs i).2.2.2.1)) := by rw [efn158]; exact (hm_un (hm_ne h132 hm127 (fun q => by cases q))).trans h132
        have h164 : fn158 ((r 5)) = some (eI Γ 8 (fun i => (gs i).2.2.2.2.1)) := by rw [efn158]; exact (hm_un (hm_ne h133 hm127 (fun q => by cases q))).trans h133
        have h165 : fn158 ((r 6)) = some (eI Γ 8 (fun i => (gs i).2.2.2.2.2.1)) := by rw [efn158]; exact (hm_un (hm_ne h134 hm127 (fun q => by cases q))).trans h134
        have h166 : fn158 ((r 7)) = some (eI Γ 8 (fun i => (gs i).2.2.2.2.2.2.1)) := by rw [efn158]; exact (hm_un (hm_ne h135 hm127 (fun q => by cases q))).trans h135
        have h167 : fn158 ((r 8)) = some (eI Γ 8 (fun i => (gs i).2.2.2.2.2.2.2.1)) := by rw [efn158]; exact (hm_un (hm_ne h136 hm127 (fun q => by cases q))).trans h136
        have h168 : fn158 ((r 9)) = some (eZ Γ 8 (fun i => bI (gs i).2.2.2.2.2.2.2.2)) := by rw [efn158]; exact (hm_un (hm_ne h137 hm127 (fun q => by cases q))).trans h137
        have h169 : fn158 ((r 10)) = some (eJ Γ 60 (fun i => b4 (ts i).2.1)) := by rw [efn158]; exact (hm_un (hm_ne h138 hm127 (fun q => by cases q))).trans h138
        have h170 : fn158 ((r 11)) = some (eI Γ 60 (fun i => nI (ts i).2.2.1)) := by rw [efn158]; exact (hm_un (hm_ne h139 hm127 (fun q => by cases q))).trans h139
        have h171 : fn158 ((r 12)) = some (eI Γ 60 (fun i => nI (ts i).1)) := by rw [efn158]; exact (hm_un (hm_ne h140 hm127 (fun q => by cases q))).trans h140
        have h172 : fn158 ((r 13)) = some (eI Γ 60 (fun i => (ts i).2.2.2)) := by rw [efn158]; exact (hm_un (hm_ne h141 hm127 (fun q => by cases q))).trans h141
        have h173 : fn158 ((r 14)) = some (eJ Γ 64 (fun j => (K j).1)) := by rw [efn158]; exact (hm_un (hm_ne h142 hm127 (fun q => by cases q))).trans h142
        have h174 : fn158 ((r 15)) = some (eI Γ 64 (fun j => (K j).2.1)) := by rw [efn158]; exact (hm_un (hm_ne h143 hm127 (fun q => by cases q))).trans h143
        have h175 : fn158 ((r 16)) = some (eI Γ 64 (fun j => (K j).2.2.1)) := by rw [efn158]; exact (hm_un (hm_ne h144 hm127 (fun q => by cases q))).trans h144
        have h176 : fn158 ((r 17)) = some (eI Γ 64 (fun j => (K j).2.2.2.1)) := by rw [efn158]; exact (hm_un (hm_ne h145 hm127 (fun q => by cases q))).trans h145
        have h177 : fn158 ((r 18)) = some (eI Γ 64 (fun j => (K j).2.2.2.2.1)) := by rw [efn158]; exact (hm_un (hm_ne h146 hm127 (fun q => by cases q))).trans h146
        have h178 : fn158 ((r 19)) = some (eI Γ 64 (fun j => (K j).2.2.2.2.2.1)) := by rw [efn158]; exact (hm_un (hm_ne h147 hm127 (fun q => by cases q))).trans h147
        have h179 : fn158 ((r 20)) = some (eI Γ 64 (fun j => (K j).2.2.2.2.2.2)) := by rw [efn158]; exact (hm_un (hm_ne h148 hm127 (fun q => by cases q))).trans h148
        have h180 : fn158 ((r 21)) = some (eJ Γ 6 pb) := by rw [efn158]; exact (hm_un (hm_ne h149 hm127 (fun q => by cases q))).trans h149
        have h181 : fn158 ((r 22)) = some (eI Γ 6 pz) := by rw [efn158]; exact (hm_un (hm_ne h150 hm127 (fun q => by cases q))).trans h150
        have h182 : fn158 ((r 23)) = some (eI Γ 6 pd) := by rw [efn158]; exact (hm_un (hm_ne h151 hm127 (fun q => by cases q))).trans h151
        have h183 : fn158 ((r 24)) = some (eI Γ 6 pn) := by rw [efn158]; exact (hm_un (hm_ne h152 hm127 (fun q => by cases q))).trans h152
        have h184 : fn158 ((r 25)) = some (eI Γ 6 pe) := by rw [efn158]; exact (hm_un (hm_ne h153 hm127 (fun q => by cases q))).trans h153
        have h185 : fn158 ((r 26)) = some (eI Γ 6 ph) := by rw [efn158]; exact (hm_un (hm_ne h154 hm127 (fun q => by cases q))).trans h154
        have h186 : fn158 ((r 27)) = some (eI Γ 6 pg) := by rw [efn158]; exact (hm_un (hm_ne h155 hm127 (fun q => by cases q))).trans h155
        refine lv_if_eq (tgt := 48) hx hb dX8_canPush_41 (by decide) (fun c187 => ?_) (fun c187 => ?_)
        · refine lv_iconst (v := 0) hx hb dX8_canPush_48 (by decide) ?_
          have hfr9 : hm_fr (mS m0 r) f fn158 := by
            rw [efn158, efn126, efn1]
            exact (((hm_fr.rf (S := mS m0 r)).up mS_0).up mS_0).up mS_0
          exact hm_zret hx hb hr rfl hlocks hS hH (⟨Or.inl ⟨by rw [hb1]; (try rw [hix]); rw [hb125]; rfl, by rw [hix, hit, bI_0.mp c187]; rfl, MW.mk hmfn158 ⟨⟨h173, h174, h175, h176, h177, h178, h179⟩, ⟨_, _, _, _, _, _, _, h180, h181, h182, h183, h184, h185, h186⟩, h159, ⟨h160, h161, h162, h163, h164, h165, h166, h167, h168⟩, h169, h170, h171, h172⟩⟩, hfr9.k⟩) (Nat.le_of_ble_eq_true rfl) (Nat.le_of_ble_eq_true rfl) dX8_canPush_49
        · refine lv_iconst (v := 1) hx hb dX8_canPush_44 (by decide) ?_
          refine lv_goto (tgt := 49) hx hb dX8_canPush_45 (by decide) ?_
          have hfr9 : hm_fr (mS m0 r) f fn158 := by
            rw [efn158, efn126, efn1]
            exact (((hm_fr.rf (S := mS m0 r)).up mS_0).up mS_0).up mS_0
          exact hm_zret hx hb hr rfl hlocks hS hH (⟨Or.inl ⟨by rw [hb1]; (try rw [hix]); rw [hb125]; rfl, by rw [hix, hit, bI_n.mp c187]; rfl, MW.mk hmfn158 ⟨⟨h173, h174, h175, h176, h177, h178, h179⟩, ⟨_, _, _, _, _, _, _, h180, h181, h182, h183, h184, h185, h186⟩, h159, ⟨h160, h161, h162, h163, h164, h165, h166, h167, h168⟩, h169, h170, h171, h172⟩⟩, hfr9.k⟩) (Nat.le_of_ble_eq_true rfl) (Nat.le_of_ble_eq_true rfl) dX8_canPush_49
  · rw [hb1] at efn1
    refine W.eq (g2 := F0 m 5 ls [.int 1]) (by rw [hb1]; rfl) ?_
    have hm1_ : fn1 m0 = some (eM r 1 (nI np) (nI ng) (nI nt) (nI kp) (nI rr) ck lim dz gd hih mih fh msh msm mso sp rf) := by rw [efn1]; exact hm_us
    have h30 : fn1 ((r 0)) = some (eI Γ 4 mon) := by rw [efn1]; exact (hm_un (hm_ne h0 hm0 (fun q => by cases q))).trans h0
    have h31 : fn1 ((r 1)) = some (eJ Γ 8 (fun i => b4 (gs i).2.1)) := by rw [efn1]; exact (hm_un (hm_ne hg1 hm0 (fun q => by cases q))).trans hg1
    have h32 : fn1 ((r 2)) = some (eI Γ 8 (fun i => nI (gs i).2.2.1)) := by rw [efn1]; exact (hm_un (hm_ne hg2 hm0 (fun q => by cases q))).trans hg2
    have h33 : fn1 ((r 3)) = some (eI Γ 8 (fun i => nI (gs i).1)) := by rw [efn1]; exact (hm_un (hm_ne hg3 hm0 (fun q => by cases q))).trans hg3
    have h34 : fn1 ((r 4)) = some (eI Γ 8 (fun i => (gs i).2.2.2.1)) := by rw [efn1]; exact (hm_un (hm_ne hg4 hm0 (fun q => by cases q))).trans hg4
    have h35 : fn1 ((r 5)) = some (eI Γ 8 (fun i => (gs i).2.2.2.2.1)) := by rw [efn1]; exact (hm_un (hm_ne hg5 hm0 (fun q => by cases q))).trans hg5
    have h36 : fn1 ((r 6)) = some (eI Γ 8 (fun i => (gs i).2.2.2.2.2.1)) := by rw [efn1]; exact (hm_un (hm_ne hg6 hm0 (fun q => by cases q))).trans hg6
    have h37 : fn1 ((r 7)) = some (eI Γ 8 (fun i => (gs i).2.2.2.2.2.2.1)) := by rw [efn1]; exact (hm_un (hm_ne hg7 hm0 (fun q => by cases q))).trans hg7
    have h38 : fn1 ((r 8)) = some (eI Γ 8 (fun i => (gs i).2.2.2.2.2.2.2.1)) := by rw [efn1]; exact (hm_un (hm_ne hg8 hm0 (fun q => by cases q))).trans hg8
    have h39 : fn1 ((r 9)) = some (eZ Γ 8 (fun i => bI (gs i).2.2.2.2.2.2.2.2)) := by rw [efn1]; exact (hm_un (hm_ne hg9 hm0 (fun q => by cases q))).trans hg9
    have h40 : fn1 ((r 10)) = some (eJ Γ 60 (fun i => b4 (ts i).2.1)) := by rw [efn1]; exact (hm_un (hm_ne ht10 hm0 (fun q => by cases q))).trans ht10
    have h41 : fn1 ((r 11)) = some (eI Γ 60 (fun i => nI (ts i).2.2.1)) := by rw [efn1]; exact (hm_un (hm_ne ht11 hm0 (fun q => by cases q))).trans ht11
    have h42 : fn1 ((r 12)) = some (eI Γ 60 (fun i => nI (ts i).1)) := by rw [efn1]; exact (hm_un (hm_ne ht12 hm0 (fun q => by cases q))).trans ht12
    have h43 : fn1 ((r 13)) = some (eI Γ 60 (fun i => (ts i).2.2.2)) := by rw [efn1]; exact (hm_un (hm_ne ht13 hm0 (fun q => by cases q))).trans ht13
    have h44 : fn1 ((r 14)) = some (eJ Γ 64 (fun j => (K j).1)) := by rw [efn1]; exact (hm_un (hm_ne hk0 hm0 (fun q => by cases q))).trans hk0
    have h45 : fn1 ((r 15)) = some (eI Γ 64 (fun j => (K j).2.1)) := by rw [efn1]; exact (hm_un (hm_ne hk1 hm0 (fun q => by cases q))).trans hk1
    have h46 : fn1 ((r 16)) = some (eI Γ 64 (fun j => (K j).2.2.1)) := by rw [efn1]; exact (hm_un (hm_ne hk2 hm0 (fun q => by cases q))).trans hk2
    have h47 : fn1 ((r 17)) = some (eI Γ 64 (fun j => (K j).2.2.2.1)) := by rw [efn1]; exact (hm_un (hm_ne hk3 hm0 (fun q => by cases q))).trans hk3
    have h48 : fn1 ((r 18)) = some (eI Γ 64 (fun j => (K j).2.2.2.2.1)) := by rw [efn1]; exact (hm_un (hm_ne hk4 hm0 (fun q => by cases q))).trans hk4
    have h49 : fn1 ((r 19)) = some (eI Γ 64 (fun j => (K j).2.2.2.2.2.1)) := by rw [efn1]; exact (hm_un (hm_ne hk5 hm0 (fun q => by cases q))).trans hk5
    have h50 : fn1 ((r 20)) = some (eI Γ 64 (fun j => (K j).2.2.2.2.2.2)) := by rw [efn1]; exact (hm_un (hm_ne hk6 hm0 (fun q => by cases q))).trans hk6
    have h51 : fn1 ((r 21)) = some (eJ Γ 6 pb) := by rw [efn1]; exact (hm_un (hm_ne hp0 hm0 (fun q => by cases q))).trans hp0
    have h52 : fn1 ((r 22)) = some (eI Γ 6 pz) := by rw [efn1]; exact (hm_un (hm_ne hp1 hm0 (fun q => by cases q))).trans hp1
    have h53 : fn1 ((r 23)) = some (eI Γ 6 pd) := by rw [efn1]; exact (hm_un (hm_ne hp2 hm0 (fun q => by cases q))).trans hp2
    have h54 : fn1 ((r 24)) = some (eI Γ 6 pn) := by rw [efn1]; exact (hm_un (hm_ne hp3 hm0 (fun q => by cases q))).trans hp3
    have h55 : fn1 ((r 25)) = some (eI Γ 6 pe) := by rw [efn1]; exact (hm_un (hm_ne hp4 hm0 (fun q => by cases q))).trans hp4
    have h56 : fn1 ((r 26)) = some (eI Γ 6 ph) := by rw [efn1]; exact (hm_un (hm_ne hp5 hm0 (fun q => by cases q))).trans hp5
    have h57 : fn1 ((r 27)) = some (eI Γ 6 pg) := by rw [efn1]; exact (hm_un (hm_ne hp6 hm0 (fun q => by cases q))).trans hp6
    refine lv_if_ne (tgt := 48) hx hb dX8_canPush_5 (by decide) (fun _ => ?_) (fun c188 => absurd c188 (by decide))
    refine lv_iconst (v := 0) hx hb dX8_canPush_48 (by decide) ?_
    have hfr9 : hm_fr (mS m0 r) f fn1 := by
      rw [efn1]
      exact (hm_fr.rf (S := mS m0 r)).up mS_0
    exact hm_zret hx hb hr rfl hlocks hS hH (⟨Or.inr ⟨by rw [hb1]; exact (show (1 : Int32) ≠ 0 by decide), ⟨_, rfl⟩, by rw [hb1]; exact MW.mk hm1_ ⟨⟨h44, h45, h46, h47, h48, h49, h50⟩, ⟨_, _, _, _, _, _, _, h51, h52, h53, h54, h55, h56, h57⟩, h30, ⟨h31, h32, h33, h34, h35, h36, h37, h38, h39⟩, h40, h41, h42, h43⟩⟩, hfr9.k⟩) (Nat.le_of_ble_eq_true rfl) (Nat.le_of_ble_eq_true rfl) dX8_canPush_49
set_option maxHeartbeats 4000000 in
set_option maxRecDepth 100000 in
theorem w_X8_isOver (Γ : Gm) (l : Launch) (m0 : Nat) (r : Nat → Nat) (th : Int32) (K : Nat → EV) (kp : Nat) (ck msh msm mso : Int32) (np : Nat) (mon : Nat → Int32) (ng : Nat) (gs : Nat → GS) (nt : Nat) (ts : Nat → TR) (lim : Int32) (rf sp : Int64) (rr : Nat) (v0 : Int32) (f : Hm) (hM : MW Γ f m0 r th K kp ck msh msm mso np mon ng gs nt ts lim rf sp rr) (hnp : np ≤ 4) (hng : ng ≤ 8) (hnt : nt ≤ 60) (hr1 : 1 ≤ rr) (hrr : rr ≤ 64) (hkr : kp ≤ rr) (hrI : rI r) (hgs : GOK np ng gs) : Ct Γ l yX8_isOver cX8_isOver 2 (some .boolean) 5 0 0 [.ref m0, .int v0] f (mP (if inB v0 (nI ng) then 0 else 1) (bI (ovN (gs (ix v0)).2.1)) (mS m0 r) f (fun f' => MW Γ f' m0 r 0 K kp ck msh msm mso np mon ng gs nt ts lim rf sp rr) (fun f' => MW Γ f' m0 r ((if inB v0 (nI ng) then 0 else 1)) K kp ck msh msm mso np mon ng gs nt ts lim rf sp rr)) := by
  refine Ct_of (by decide +kernel) (Nat.le_of_ble_eq_true rfl) ?_
  intro p e s m args below meth c hx hb hr hml hown hin hlocks hts hH hO hK ls hl
  have hl : lv_has ls 2 [(0, .ref m0), (1, .int v0)] := hl
  have hS : va_S (gA Γ) s.heap s.heap [] := va_S.rf
  obtain ⟨⟨dz, gd, hih, mih, fh, hm0⟩, hR⟩ := id hM
  obtain ⟨⟨hk0, hk1, hk2, hk3, hk4, hk5, hk6⟩, ⟨pb, pz, pd, pn, pe, ph, pg, hp0, hp1, hp2, hp3, hp4, hp5, hp6⟩, h0, ⟨hg1, hg2, hg3, hg4, hg5, hg6, hg7, hg8, hg9⟩, ht10, ht11, ht12, ht13⟩ := id hR
  refine lv_aload_n hx hb dX8_isOver_0 rfl (lv_at hl 0 rfl) ?_
  refine lv_iload_n hx hb dX8_isOver_1 rfl (lv_at hl 1 rfl) ?_
  refine hm_callV (rest := []) (k := 2) q5_146 q5_148 q1_9 q5_149 q0_19 rfl nm_X8_noGame rfl hx hb hml hown hts hK hO hS hH hl.1 hm0 (c_X8_noGame Γ l m0 r th (nI np) (nI ng) (nI nt) (nI kp) (nI rr) ck lim dz gd hih mih fh msh msm mso sp rf v0 f hm0) ⟨Nat.le_of_ble_eq_true rfl, Nat.le_of_ble_eq_true rfl⟩ ⟨Nat.le_of_ble_eq_true rfl, Nat.le_of_ble_eq_true rfl⟩ rfl (Nat.le_of_ble_eq_true rfl) dX8_isOver_2 (fun v_ fn1 H locs hp_ hH hS => ?_)
  obtain ⟨rfl, efn1⟩ := hp_
  rcases bTF (inB v0 (nI ng)) with hb1 | hb1
  · rw [hb1] at efn1
    refine W.eq (g2 := F0 m 5 ls [.int 0]) (by rw [hb1]; rfl) ?_
    have hm1_ : fn1 m0 = some (eM r 0 (nI np) (nI ng) (nI nt) (nI kp) (nI rr) ck lim dz gd hih mih fh msh msm mso sp rf) := by rw [efn1]; exact hm_us
    have h2 : fn1 ((r 0)) = some (eI Γ 4 mon) := by rw [efn1]; exact (hm_un (hm_ne h0 hm0 (fun q => by cases q))).trans h0
    have h3 : fn1 ((r 1)) = some (eJ Γ 8 (fun i => b4 (gs i).2.1)) := by rw [efn1]; exact (hm_un (hm_ne hg1 hm0 (fun q => by cases q))).trans hg1
    have h4 : fn1 ((r 2)) = some (eI Γ 8 (fun i => nI (gs i).2.2.1)) := by rw [efn1]; exact (hm_un (hm_ne hg2 hm0 (fun q => by cases q))).trans hg2
    have h5 : fn1 ((r 3)) = some (eI Γ 8 (fun i => nI (gs i).1)) := by rw [efn1]; exact (hm_un (hm_ne hg3 hm0 (fun q => by cases q))).trans hg3
    have h6 : fn1 ((r 4)) = some (eI Γ 8 (fun i => (gs i).2.2.2.1)) := by rw [efn1]; exact (hm_un (hm_ne hg4 hm0 (fun q => by cases q))).trans hg4
    have h7 : fn1 ((r 5)) = some (eI Γ 8 (fun i => (gs i).2.2.2.2.1)) := by rw [efn1]; exact (hm_un (hm_ne hg5 hm0 (fun q => by cases q))).trans hg5
    have h8 : fn1 ((r 6)) = some (eI Γ 8 (fun i => (gs i).2.2.2.2.2.1)) := by rw [efn1]; exact (hm_un (hm_ne hg6 hm0 (fun q => by cases q))).trans hg6
    have h9 : fn1 ((r 7)) = some (eI Γ 8 (fun i => (gs i).2.2.2.2.2.2.1)) := by rw [efn1]; exact (hm_un (hm_ne hg7 hm0 (fun q => by cases q))).trans hg7
    have h10 : fn1 ((r 8)) = some (eI Γ 8 (fun i => (gs i).2.2.2.2.2.2.2.1)) := by rw [efn1]; exact (hm_un (hm_ne hg8 hm0 (fun q => by cases q))).trans hg8
    have h11 : fn1 ((r 9)) = some (eZ Γ 8 (fun i => bI (gs i).2.2.2.2.2.2.2.2)) := by rw [efn1]; exact (hm_un (hm_ne hg9 hm0 (fun q => by cases q))).trans hg9
    have h12 : fn1 ((r 10)) = some (eJ Γ 60 (fun i => b4 (ts i).2.1)) := by rw [efn1]; exact (hm_un (hm_ne ht10 hm0 (fun q => by cases q))).trans ht10
    have h13 : fn1 ((r 11)) = some (eI Γ 60 (fun i => nI (ts i).2.2.1)) := by rw [efn1]; exact (hm_un (hm_ne ht11 hm0 (fun q => by cases q))).trans ht11
    have h14 : fn1 ((r 12)) = some (eI Γ 60 (fun i => nI (ts i).1)) := by rw [efn1]; exact (hm_un (hm_ne ht12 hm0 (fun q => by cases q))).trans ht12
    have h15 : fn1 ((r 13)) = some (eI Γ 60 (fun i => (ts i).2.2.2)) := by rw [efn1]; exact (hm_un (hm_ne ht13 hm0 (fun q => by cases q))).trans ht13
    have h16 : fn1 ((r 14)) = some (eJ Γ 64 (fun j => (K j).1)) := by rw [efn1]; exact (hm_un (hm_ne hk0 hm0 (fun q => by cases q))).trans hk0
    have h17 : fn1 ((r 15)) = some (eI Γ 64 (fun j => (K j).2.1)) := by rw [efn1]; exact (hm_un (hm_ne hk1 hm0 (fun q => by cases q))).trans hk1
    have h18 : fn1 ((r 16)) = some (eI Γ 64 (fun j => (K j).2.2.1)) := by rw [efn1]; exact (hm_un (hm_ne hk2 hm0 (fun q => by cases q))).trans hk2
    have h19 : fn1 ((r 17)) = some (eI Γ 64 (fun j => (K j).2.2.2.1)) := by rw [efn1]; exact (hm_un (hm_ne hk3 hm0 (fun q => by cases q))).trans hk3
    have h20 : fn1 ((r 18)) = some (eI Γ 64 (fun j => (K j).2.2.2.2.1)) := by rw [efn1]; exact (hm_un (hm_ne hk4 hm0 (fun q => by cases q))).trans hk4
    have h21 : fn1 ((r 19)) = some (eI Γ 64 (fun j => (K j).2.2.2.2.2.1)) := by rw [efn1]; exact (hm_un (hm_ne hk5 hm0 (fun q => by cases q))).trans hk5
    have h22 : fn1 ((r 20)) = some (eI Γ 64 (fun j => (K j).2.2.2.2.2.2)) := by rw [efn1]; exact (hm_un (hm_ne hk6 hm0 (fun q => by cases q))).trans hk6
    have h23 : fn1 ((r 21)) = some (eJ Γ 6 pb) := by rw [efn1]; exact (hm_un (hm_ne hp0 hm0 (fun q => by cases q))).trans hp0
    have h24 : fn1 ((r 22)) = some (eI Γ 6 pz) := by rw [efn1]; exact (hm_un (hm_ne hp1 hm0 (fun q => by cases q))).trans hp1
    have h25 : fn1 ((r 23)) = some (eI Γ 6 pd) := by rw [efn1]; exact (hm_un (hm_ne hp2 hm0 (fun q => by cases q))).trans hp2
    have h26 : fn1 ((r 24)) = some (eI Γ 6 pn) := by rw [efn1]; exact (hm_un (hm_ne hp3 hm0 (fun q => by cases q))).trans hp3
    have h27 : fn1 ((r 25)) = some (eI Γ 6 pe) := by rw [efn1]; exact (hm_un (hm_ne hp4 hm0 (fun q => by cases q))).trans hp4
    have h28 : fn1 ((r 26)) = some (eI Γ 6 ph) := by rw [efn1]; exact (hm_un (hm_ne hp5 hm0 (fun q => by cases q))).trans hp5
    have h29 : fn1 ((r 27)) = some (eI Γ 6 pg) := by rw [efn1]; exact (hm_un (hm_ne hp6 hm0 (fun q => by cases q))).trans hp6
    obtain ⟨i, hi, rfl⟩ := (inB_iff (by omega)).mp hb1
    obtain ⟨hgo, hgw, hgz⟩ := hgs i hi
    have hi8 : i < 8 := by omega
    have hix : ix (nI i) = i := ix_nI (by omega)
    have ht15 : tl 15 (gs i).2.1 := tl_mono (tl12 (by omega)) (by decide)
    refine lv_if_ne (tgt := 25) hx hb dX8_isOver_5 (by decide) (fun c58 => absurd (by decide) c58) (fun _ => ?_)
    refine lv_aload_n hx hb dX8_isOver_8 rfl (lv_at hl 0 rfl) ?_
    refine lv_aload_n hx hb dX8_isOver_9 rfl (lv_at hl 0 rfl) ?_
    refine gf_X8_13 hx hb hts hown hK hH hm1_ rfl dX8_isOver_10 ?_
    refine lv_iload_n hx hb dX8_isOver_13 rfl (lv_at hl 1 rfl) ?_
    refine hm_lald hx hb hK hH h3 (vp_in_nI hi8 (by decide)) dX8_isOver_14 ?_
    refine lv_topl (fun v59 ev59 => ?_)
    replace ev59 : v59 = b4 (gs i).2.1 := ev59.trans (by show b4 (gs (nI i).toNatClampNeg).2.1 = _; rw [nI_clamp (n := i) (by omega)])
    subst ev59
    refine hm_callV (rest := []) (k := 4) q5_185 q5_187 q1_9 q5_188 q0_23 rfl nm_X8_over rfl hx hb hml hown hts hK hO hS hH hl.1 hm1_ (c_X8_over Γ l m0 r 0 (nI np) (nI ng) (nI nt) (nI kp) (nI rr) ck lim dz gd hih mih fh msh msm mso sp rf (gs i).2.1 fn1 hm1_ ht15) ⟨Nat.le_of_ble_eq_true rfl, Nat.le_of_ble_eq_true rfl⟩ ⟨Nat.le_of_ble_eq_true rfl, Nat.le_of_ble_eq_true rfl⟩ rfl (Nat.le_of_ble_eq_true rfl) dX8_isOver_15 (fun v_ fn60 H locs hp_ hH hS => ?_)
    obtain ⟨rfl, y_, efn60⟩ := hp_
    refine W.eq (g2 := F0 m 18 ls [.int (bI (ovN (gs i).2.1))]) rfl ?_
    have hmfn60 : fn60 m0 = some (eM r 0 (nI np) (nI ng) (nI nt) (nI kp) (nI rr) ck lim dz y_ hih mih fh msh msm mso sp rf) := by rw [efn60]; exact hm_us
    have h61 : fn60 ((r 0)) = some (eI Γ 4 mon) := by rw [efn60]; exact (hm_un (hm_ne h2 hm1_ (fun q => by cases q))).trans h2
    have h62 : fn60 ((r 1)) = some (eJ Γ 8 (fun i => b4 (gs i).2.1)) := by rw [efn60]; exact (hm_un (hm_ne h3 hm1_ (fun q => by cases q))).trans h3
    have h63 : fn60 ((r 2)) = some (eI Γ 8 (fun i => nI (gs i).2.2.1)) := by rw [efn60]; exact (hm_un (hm_ne h4 hm1_ (fun q => by cases q))).trans h4
    have h64 : fn60 ((r 3)) = some (eI Γ 8 (fun i => nI (gs i).1)) := by rw [efn60]; exact (hm_un (hm_ne h5 hm1_ (fun q => by cases q))).trans h5
    have h65 : fn60 ((r 4)) = some (eI Γ 8 (fun i => (gs i).2.2.2.1)) := by rw [efn60]; exact (hm_un (hm_ne h6 hm1_ (fun q => by cases q))).trans h6
    have h66 : fn60 ((r 5)) = some (eI Γ 8 (fun i => (gs i).2.2.2.2.1)) := by rw [efn60]; exact (hm_un (hm_ne h7 hm1_ (fun q => by cases q))).trans h7
    have h67 : fn60 ((r 6)) = some (eI Γ 8 (fun i => (gs i).2.2.2.2.2.1)) := by rw [efn60]; exact (hm_un (hm_ne h8 hm1_ (fun q => by cases q))).trans h8
    have h68 : fn60 ((r 7)) = some (eI Γ 8 (fun i => (gs i).2.2.2.2.2.2.1)) := by rw [efn60]; exact (hm_un (hm_ne h9 hm1_ (fun q => by cases q))).trans h9
    have h69 : fn60 ((r 8)) = some (eI Γ 8 (fun i => (gs i).2.2.2.2.2.2.2.1)) := by rw [efn60]; exact (hm_un (hm_ne h10 hm1_ (fun q => by cases q))).trans h10
    have h70 : fn60 ((r 9)) = some (eZ Γ 8 (fun i => bI (gs i).2.2.2.2.2.2.2.2)) := by rw [efn60]; exact (hm_un (hm_ne h11 hm1_ (fun q => by cases q))).trans h11
    have h71 : fn60 ((r 10)) = some (eJ Γ 60 (fun i => b4 (ts i).2.1)) := by rw [efn60]; exact (hm_un (hm_ne h12 hm1_ (fun q => by cases q))).trans h12
    have h72 : fn60 ((r 11)) = some (eI Γ 60 (fun i => nI (ts i).2.2.1)) := by rw [efn60]; exact (hm_un (hm_ne h13 hm1_ (fun q => by cases q))).trans h13
    have h73 : fn60 ((r 12)) = some (eI Γ 60 (fun i => nI (ts i).1)) := by rw [efn60]; exact (hm_un (hm_ne h14 hm1_ (fun q => by cases q))).trans h14
    have h74 : fn60 ((r 13)) = some (eI Γ 60 (fun i => (ts i).2.2.2)) := by rw [efn60]; exact (hm_un (hm_ne h15 hm1_ (fun q => by cases q))).trans h15
    have h75 : fn60 ((r 14)) = some (eJ Γ 64 (fun j => (K j).1)) := by rw [efn60]; exact (hm_un (hm_ne h16 hm1_ (fun q => by cases q))).trans h16
    have h76 : fn60 ((r 15)) = some (eI Γ 64 (fun j => (K j).2.1)) := by rw [efn60]; exact (hm_un (hm_ne h17 hm1_ (fun q => by cases q))).trans h17
    have h77 : fn60 ((r 16)) = some (eI Γ 64 (fun j => (K j).2.2.1)) := by rw [efn60]; exact (hm_un (hm_ne h18 hm1_ (fun q => by cases q))).trans h18
    have h78 : fn60 ((r 17)) = some (eI Γ 64 (fun j => (K j).2.2.2.1)) := by rw [efn60]; exact (hm_un (hm_ne h19 hm1_ (fun q => by cases q))).trans h19
    have h79 : fn60 ((r 18)) = some (eI Γ 64 (fun j => (K j).2.2.2.2.1)) := by rw [efn60]; exact (hm_un (hm_ne h20 hm1_ (fun q => by cases q))).trans h20
    have h80 : fn60 ((r 19)) = some (eI Γ 64 (fun j => (K j).2.2.2.2.2.1)) := by rw [efn60]; exact (hm_un (hm_ne h21 hm1_ (fun q => by cases q))).trans h21
    have h81 : fn60 ((r 20)) = some (eI Γ 64 (fun j => (K j).2.2.2.2.2.2)) := by rw [efn60]; exact (hm_un (hm_ne h22 hm1_ (fun q => by cases q))).trans h22
    have h82 : fn60 ((r 21)) = some (eJ Γ 6 pb) := by rw [efn60]; exact (hm_un (hm_ne h23 hm1_ (fun q => by cases q))).trans h23
    have h83 : fn60 ((r 22)) = some (eI Γ 6 pz) := by rw [efn60]; exact (hm_un (hm_ne h24 hm1_ (fun q => by cases q))).trans h24
    have h84 : fn60 ((r 23)) = some (eI Γ 6 pd) := by rw [efn60]; exact (hm_un (hm_ne h25 hm1_ (fun q => by cases q))).trans h25
    have h85 : fn60 ((r 24)) = some (eI Γ 6 pn) := by rw [efn60]; exact (hm_un (hm_ne h26 hm1_ (fun q => by cases q))).trans h26
    have h86 : fn60 ((r 25)) = some (eI Γ 6 pe) := by rw [efn60]; exact (hm_un (hm_ne h27 hm1_ (fun q => by cases q))).trans h27
    have h87 : fn60 ((r 26)) = some (eI Γ 6 ph) := by rw [efn60]; exact (hm_un (hm_ne h28 hm1_ (fun q => by cases q))).trans h28
    have h88 : fn60 ((r 27)) = some (eI Γ 6 pg) := by rw [efn60]; exact (hm_un (hm_ne h29 hm1_ (fun q => by cases q))).trans h29
    refine lv_if_eq (tgt := 25) hx hb dX8_isOver_18 (by decide) (fun c89 => ?_) (fun c89 => ?_)
    · refine lv_iconst (v := 0) hx hb dX8_isOver_25 (by decide) ?_
      have hfr9 : hm_fr (mS m0 r) f fn60 := by
        rw [efn60, efn1]
        exact ((hm_fr.rf (S := mS m0 r)).up mS_0).up mS_0
      exact hm_zret hx hb hr rfl hlocks hS hH (⟨Or.inl ⟨by rw [hb1]; (try rw [hix]); rfl, by rw [hix, bI_0.mp c89]; rfl, MW.mk hmfn60 ⟨⟨h75, h76, h77, h78, h79, h80, h81⟩, ⟨_, _, _, _, _, _, _, h82, h83, h84, h85, h86, h87, h88⟩, h61, ⟨h62, h63, h64, h65, h66, h67, h68, h69, h70⟩, h71, h72, h73, h74⟩⟩, hfr9.k⟩) (Nat.le_of_ble_eq_true rfl) (Nat.le_of_ble_eq_true rfl) dX8_isOver_26
    · refine lv_iconst (v := 1) hx hb dX8_isOver_21 (by decide) ?_
      refine lv_goto (tgt := 26) hx hb dX8_isOver_22 (by decide) ?_
      have hfr9 : hm_fr (mS m0 r) f fn60 := by
        rw [efn60, efn1]
        exact ((hm_fr.rf (S := mS m0 r)).up mS_0).up mS_0
      exact hm_zret hx hb hr rfl hlocks hS hH (⟨Or.inl ⟨by rw [hb1]; (try rw [hix]); rfl, by rw [hix, bI_n.mp c89]; rfl, MW.mk hmfn60 ⟨⟨h75, h76, h77, h78, h79, h80, h81⟩, ⟨_, _, _, _, _, _, _, h82, h83, h84, h85, h86, h87, h88⟩, h61, ⟨h62, h63, h64, h65, h66, h67, h68, h69, h70⟩, h71, h72, h73, h74⟩⟩, hfr9.k⟩) (Nat.le_of_ble_eq_true rfl) (Nat.le_of_ble_eq_true rfl) dX8_isOver_26
  · rw [hb1] at efn1
    refine W.eq (g2 := F0 m 5 ls [.int 1]) (by rw [hb1]; rfl) ?_
    have hm1_ : fn1 m0 = some (eM r 1 (nI np) (nI ng) (nI nt) (nI kp) (nI rr) ck lim dz gd hih mih fh msh msm mso sp rf) := by rw [efn1]; exact hm_us
    have h30 : fn1 ((r 0)) = some (eI Γ 4 mon) := by rw [efn1]; exact (hm_un (hm_ne h0 hm0 (fun q => by cases q))).trans h0
    have h31 : fn1 ((r 1)) = some (eJ Γ 8 (fun i => b4 (gs i).2.1)) := by rw [efn1]; exact (hm_un (hm_ne hg1 hm0 (fun q => by cases q))).trans hg1
    have h32 : fn1 ((r 2)) = some (eI Γ 8 (fun i => nI (gs i).2.2.1)) := by rw [efn1]; exact (hm_un (hm_ne hg2 hm0 (fun q => by cases q))).trans hg2
    have h33 : fn1 ((r 3)) = some (eI Γ 8 (fun i => nI (gs i).1)) := by rw [efn1]; exact (hm_un (hm_ne hg3 hm0 (fun q => by cases q))).trans hg3
    have h34 : fn1 ((r 4)) = some (eI Γ 8 (fun i => (gs i).2.2.2.1)) := by rw [efn1]; exact (hm_un (hm_ne hg4 hm0 (fun q => by cases q))).trans hg4
    have h35 : fn1 ((r 5)) = some (eI Γ 8 (fun i => (gs i).2.2.2.2.1)) := by rw [efn1]; exact (hm_un (hm_ne hg5 hm0 (fun q => by cases q))).trans hg5
    have h36 : fn1 ((r 6)) = some (eI Γ 8 (fun i => (gs i).2.2.2.2.2.1)) := by rw [efn1]; exact (hm_un (hm_ne hg6 hm0 (fun q => by cases q))).trans hg6
    have h37 : fn1 ((r 7)) = some (eI Γ 8 (fun i => (gs i).2.2.2.2.2.2.1)) := by rw [efn1]; exact (hm_un (hm_ne hg7 hm0 (fun q => by cases q))).trans hg7
    have h38 : fn1 ((r 8)) = some (eI Γ 8 (fun i => (gs i).2.2.2.2.2.2.2.1)) := by rw [efn1]; exact (hm_un (hm_ne hg8 hm0 (fun q => by cases q))).trans hg8
    have h39 : fn1 ((r 9)) = some (eZ Γ 8 (fun i => bI (gs i).2.2.2.2.2.2.2.2)) := by rw [efn1]; exact (hm_un (hm_ne hg9 hm0 (fun q => by cases q))).trans hg9
    have h40 : fn1 ((r 10)) = some (eJ Γ 60 (fun i => b4 (ts i).2.1)) := by rw [efn1]; exact (hm_un (hm_ne ht10 hm0 (fun q => by cases q))).trans ht10
    have h41 : fn1 ((r 11)) = some (eI Γ 60 (fun i => nI (ts i).2.2.1)) := by rw [efn1]; exact (hm_un (hm_ne ht11 hm0 (fun q => by cases q))).trans ht11
    have h42 : fn1 ((r 12)) = some (eI Γ 60 (fun i => nI (ts i).1)) := by rw [efn1]; exact (hm_un (hm_ne ht12 hm0 (fun q => by cases q))).trans ht12
    have h43 : fn1 ((r 13)) = some (eI Γ 60 (fun i => (ts i).2.2.2)) := by rw [efn1]; exact (hm_un (hm_ne ht13 hm0 (fun q => by cases q))).trans ht13
    have h44 : fn1 ((r 14)) = some (eJ Γ 64 (fun j => (K j).1)) := by rw [efn1]; exact (hm_un (hm_ne hk0 hm0 (fun q => by cases q))).trans hk0
    have h45 : fn1 ((r 15)) = some (eI Γ 64 (fun j => (K j).2.1)) := by rw [efn1]; exact (hm_un (hm_ne hk1 hm0 (fun q => by cases q))).trans hk1
    have h46 : fn1 ((r 16)) = some (eI Γ 64 (fun j => (K j).2.2.1)) := by rw [efn1]; exact (hm_un (hm_ne hk2 hm0 (fun q => by cases q))).trans hk2
    have h47 : fn1 ((r 17)) = some (eI Γ 64 (fun j => (K j).2.2.2.1)) := by rw [efn1]; exact (hm_un (hm_ne hk3 hm0 (fun q => by cases q))).trans hk3
    have h48 : fn1 ((r 18)) = some (eI Γ 64 (fun j => (K j).2.2.2.2.1)) := by rw [efn1]; exact (hm_un (hm_ne hk4 hm0 (fun q => by cases q))).trans hk4
    have h49 : fn1 ((r 19)) = some (eI Γ 64 (fun j => (K j).2.2.2.2.2.1)) := by rw [efn1]; exact (hm_un (hm_ne hk5 hm0 (fun q => by cases q))).trans hk5
    have h50 : fn1 ((r 20)) = some (eI Γ 64 (fun j => (K j).2.2.2.2.2.2)) := by rw [efn1]; exact (hm_un (hm_ne hk6 hm0 (fun q => by cases q))).trans hk6
    have h51 : fn1 ((r 21)) = some (eJ Γ 6 pb) := by rw [efn1]; exact (hm_un (hm_ne hp0 hm0 (fun q => by cases q))).trans hp0
    have h52 : fn1 ((r 22)) = some (eI Γ 6 pz) := by rw [efn1]; exact (hm_un (hm_ne hp1 hm0 (fun q => by cases q))).trans hp1
    have h53 : fn1 ((r 23)) = some (eI Γ 6 pd) := by rw [efn1]; exact (hm_un (hm_ne hp2 hm0 (fun q => by cases q))).trans hp2
    have h54 : fn1 ((r 24)) = some (eI Γ 6 pn) := by rw [efn1]; exact (hm_un (hm_ne hp3 hm0 (fun q => by cases q))).trans hp3
    have h55 : fn1 ((r 25)) = some (eI Γ 6 pe) := by rw [efn1]; exact (hm_un (hm_ne hp4 hm0 (fun q => by cases q))).trans hp4
    have h56 : fn1 ((r 26)) = some (eI Γ 6 ph) := by rw [efn1]; exact (hm_un (hm_ne hp5 hm0 (fun q => by cases q))).trans hp5
    have h57 : fn1 ((r 27)) = some (eI Γ 6 pg) := by rw [efn1]; exact (hm_un (hm_ne hp6 hm0 (fun q => by cases q))).trans hp6
    refine lv_if_ne (tgt := 25) hx hb dX8_isOver_5 (by decide) (fun _ => ?_) (fun c90 => absurd c90 (by decide))
    refine lv_iconst (v := 0) hx hb dX8_isOver_25 (by decide) ?_
    have hfr9 : hm_fr (mS m0 r) f fn1 := by
      rw [efn1]
      exact (hm_fr.rf (S := mS m0 r)).up mS_0
    exact hm_zret hx hb hr rfl hlocks hS hH (⟨Or.inr ⟨by rw [hb1]; exact (show (1 : Int32) ≠ 0 by decide), ⟨_, rfl⟩, by rw [hb1]; exact MW.mk hm1_ ⟨⟨h44, h45, h46, h47, h48, h49, h50⟩, ⟨_, _, _, _, _, _, _, h51, h52, h53, h54, h55, h56, h57⟩, h30, ⟨h31, h32, h33, h34, h35, h36, h37, h38, h39⟩, h40, h41, h42, h43⟩⟩, hfr9.k⟩) (Nat.le_of_ble_eq_true rfl) (Nat.le_of_ble_eq_true rfl) dX8_isOver_26
set_option maxHeartbeats 4000000 in
set_option maxRecDepth 100000 in
theorem w_X8_addPlayer (Γ : Gm) (l : Launch) (m0 : Nat) (r : Nat → Nat) (th : Int32) (K : Nat → EV) (kp : Nat) (ck msh msm mso : Int32) (np : Nat) (mon : Nat → Int32) (ng : Nat) (gs : Nat → GS) (nt : Nat) (ts : Nat → TR) (lim : Int32) (rf sp : Int64) (rr : Nat) (v0 : Int32) (f : Hm) (hM : MW Γ f m0 r th K kp ck msh msm mso np mon ng gs nt ts lim rf sp rr) (hnp : np ≤ 4) (hng : ng ≤ 8) (hnt : nt ≤ 60) (hr1 : 1 ≤ rr) (hrr : rr ≤ 64) (hkr : kp ≤ rr) (hrI : rI r) (hgs : GOK np ng gs) : Ct Γ l yX8_addPlayer cX8_addPlayer 2 (some .int) 2 0 0 [.ref m0, .int v0] f (mP (if inR v0 0 9999 then (if decide (np < 4) then 0 else 2) else 1) (nI np) (mS m0 r) f (fun f' => MW Γ f' m0 r 0 K kp ck msh msm mso ((np + 1)) ((upd mon np v0)) ng gs nt ts lim rf sp rr) (fun f' => MW Γ f' m0 r ((if inR v0 0 9999 then (if decide (np < 4) then 0 else 2) else 1)) K kp ck msh msm mso np mon ng gs nt ts lim rf sp rr)) := by
  refine Ct_of (by decide +kernel) (Nat.le_of_ble_eq_true rfl) ?_
  intro p e s m args below meth c hx hb hr hml hown hin hlocks hts hH hO hK ls hl
  have hl : lv_has ls 2 [(0, .ref m0), (1, .int v0)] := hl
  have hS : va_S (gA Γ) s.heap s.heap [] := va_S.rf
  obtain ⟨⟨dz, gd, hih, mih, fh, hm0⟩, hR⟩ := id hM
  obtain ⟨⟨hk0, hk1, hk2, hk3, hk4, hk5, hk6⟩, ⟨pb, pz, pd, pn, pe, ph, pg, hp0, hp1, hp2, hp3, hp4, hp5, hp6⟩, h0, ⟨hg1, hg2, hg3, hg4, hg5, hg6, hg7, hg8, hg9⟩, ht10, ht11, ht12, ht13⟩ := id hR
  refine lv_aload_n hx hb dX8_addPlayer_0 rfl (lv_at hl 0 rfl) ?_
  refine lv_iload_n hx hb dX8_addPlayer_1 rfl (lv_at hl 1 rfl) ?_
  refine lv_if_lt (tgt := 16) hx hb dX8_addPlayer_2 (by decide) (fun c1 => ?_) (fun c1 => ?_)
  · refine lv_iconst (v := 0) hx hb dX8_addPlayer_16 (by decide) ?_
    refine lv_iconst (v := 1) hx hb dX8_addPlayer_17 (by decide) ?_
    have hb2 : (inR v0 0 9999) = false := (by unfold inR; rw [decide_eq_false (Int32.not_le.mpr c1)]; rfl)
    refine W.eq (g2 := F0 m 18 ls [.int 1, .int (bI (inR v0 0 9999)), .ref m0]) (by rw [hb2]; rfl) ?_
    refine hm_callV (rest := []) (k := 1) q5_119 q5_121 q1_9 q5_122 q0_17 rfl nm_X8_no rfl hx hb hml hown hts hK hO hS hH hl.1 hm0 (c_X8_no Γ l m0 r th (nI np) (nI ng) (nI nt) (nI kp) (nI rr) ck lim dz gd hih mih fh msh msm mso sp rf (inR v0 0 9999) 1 f hm0) ⟨Nat.le_of_ble_eq_true rfl, Nat.le_of_ble_eq_true rfl⟩ ⟨Nat.le_of_ble_eq_true rfl, Nat.le_of_ble_eq_true rfl⟩ rfl (Nat.le_of_ble_eq_true rfl) dX8_addPlayer_18 (fun v_ fn3 H locs hp_ hH hS => ?_)
    obtain ⟨rfl, efn3⟩ := hp_
    rw [hb2] at efn3
    refine W.eq (g2 := F0 m 21 ls [.int 1]) (by rw [hb2]; rfl) ?_
    have hm4 : fn3 m0 = some (eM r 1 (nI np) (nI ng) (nI nt) (nI kp) (nI rr) ck lim dz gd hih mih fh msh msm mso sp rf) := by rw [efn3]; exact hm_us
    have h5 : fn3 ((r 0)) = some (eI Γ 4 mon) := by rw [efn3]; exact (hm_un (hm_ne h0 hm0 (fun q => by cases q))).trans h0
    have h6 : fn3 ((r 1)) = some (eJ Γ 8 (fun i => b4 (gs i).2.1)) := by rw [efn3]; exact (hm_un (hm_ne hg1 hm0 (fun q => by cases q))).trans hg1
    have h7 : fn3 ((r 2)) = some (eI Γ 8 (fun i => nI (gs i).2.2.1)) := by rw [efn3]; exact (hm_un (hm_ne hg2 hm0 (fun q => by cases q))).trans hg2
    have h8 : fn3 ((r 3)) = some (eI Γ 8 (fun i => nI (gs i).1)) := by rw [efn3]; exact (hm_un (hm_ne hg3 hm0 (fun q => by cases q))).trans hg3
    have h9 : fn3 ((r 4)) = some (eI Γ 8 (fun i => (gs i).2.2.2.1)) := by rw [efn3]; exact (hm_un (hm_ne hg4 hm0 (fun q => by cases q))).trans hg4
    have h10 : fn3 ((r 5)) = some (eI Γ 8 (fun i => (gs i).2.2.2.2.1)) := by rw [efn3]; exact (hm_un (hm_ne hg5 hm0 (fun q => by cases q))).trans hg5
    have h11 : fn3 ((r 6)) = some (eI Γ 8 (fun i => (gs i).2.2.2.2.2.1)) := by rw [efn3]; exact (hm_un (hm_ne hg6 hm0 (fun q => by cases q))).trans hg6
    have h12 : fn3 ((r 7)) = some (eI Γ 8 (fun i => (gs i).2.2.2.2.2.2.1)) := by rw [efn3]; exact (hm_un (hm_ne hg7 hm0 (fun q => by cases q))).trans hg7
    have h13 : fn3 ((r 8)) = some (eI Γ 8 (fun i => (gs i).2.2.2.2.2.2.2.1)) := by rw [efn3]; exact (hm_un (hm_ne hg8 hm0 (fun q => by cases q))).trans hg8
    have h14 : fn3 ((r 9)) = some (eZ Γ 8 (fun i => bI (gs i).2.2.2.2.2.2.2.2)) := by rw [efn3]; exact (hm_un (hm_ne hg9 hm0 (fun q => by cases q))).trans hg9
    have h15 : fn3 ((r 10)) = some (eJ Γ 60 (fun i => b4 (ts i).2.1)) := by rw [efn3]; exact (hm_un (hm_ne ht10 hm0 (fun q => by cases q))).trans ht10
    have h16 : fn3 ((r 11)) = some (eI Γ 60 (fun i => nI (ts i).2.2.1)) := by rw [efn3]; exact (hm_un (hm_ne ht11 hm0 (fun q => by cases q))).trans ht11
    have h17 : fn3 ((r 12)) = some (eI Γ 60 (fun i => nI (ts i).1)) := by rw [efn3]; exact (hm_un (hm_ne ht12 hm0 (fun q => by cases q))).trans ht12
    have h18 : fn3 ((r 13)) = some (eI Γ 60 (fun i => (ts i).2.2.2)) := by rw [efn3]; exact (hm_un (hm_ne ht13 hm0 (fun q => by cases q))).trans ht13
    have h19 : fn3 ((r 14)) = some (eJ Γ 64 (fun j => (K j).1)) := by rw [efn3]; exact (hm_un (hm_ne hk0 hm0 (fun q => by cases q))).trans hk0
    have h20 : fn3 ((r 15)) = some (eI Γ 64 (fun j => (K j).2.1)) := by rw [efn3]; exact (hm_un (hm_ne hk1 hm0 (fun q => by cases q))).trans hk1
    have h21 : fn3 ((r 16)) = some (eI Γ 64 (fun j => (K j).2.2.1)) := by rw [efn3]; exact (hm_un (hm_ne hk2 hm0 (fun q => by cases q))).trans hk2
    have h22 : fn3 ((r 17)) = some (eI Γ 64 (fun j => (K j).2.2.2.1)) := by rw [efn3]; exact (hm_un (hm_ne hk3 hm0 (fun q => by cases q))).trans hk3
    have h23 : fn3 ((r 18)) = some (eI Γ 64 (fun j => (K j).2.2.2.2.1)) := by rw [efn3]; exact (hm_un (hm_ne hk4 hm0 (fun q => by cases q))).trans hk4
    have h24 : fn3 ((r 19)) = some (eI Γ 64 (fun j => (K j).2.2.2.2.2.1)) := by rw [efn3]; exact (hm_un (hm_ne hk5 hm0 (fun q => by cases q))).trans hk5
    have h25 : fn3 ((r 20)) = some (eI Γ 64 (fun j => (K j).2.2.2.2.2.2)) := by rw [efn3]; exact (hm_un (hm_ne hk6 hm0 (fun q => by cases q))).trans hk6
    have h26 : fn3 ((r 21)) = some (eJ Γ 6 pb) := by rw [efn3]; exact (hm_un (hm_ne hp0 hm0 (fun q => by cases q))).trans hp0
    have h27 : fn3 ((r 22)) = some (eI Γ 6 pz) := by rw [efn3]; exact (hm_un (hm_ne hp1 hm0 (fun q => by cases q))).trans hp1
    have h28 : fn3 ((r 23)) = some (eI Γ 6 pd) := by rw [efn3]; exact (hm_un (hm_ne hp2 hm0 (fun q => by cases q))).trans hp2
    have h29 : fn3 ((r 24)) = some (eI Γ 6 pn) := by rw [efn3]; exact (hm_un (hm_ne hp3 hm0 (fun q => by cases q))).trans hp3
    have h30 : fn3 ((r 25)) = some (eI Γ 6 pe) := by rw [efn3]; exact (hm_un (hm_ne hp4 hm0 (fun q => by cases q))).trans hp4
    have h31 : fn3 ((r 26)) = some (eI Γ 6 ph) := by rw [efn3]; exact (hm_un (hm_ne hp5 hm0 (fun q => by cases q))).trans hp5
    have h32 : fn3 ((r 27)) = some (eI Γ 6 pg) := by rw [efn3]; exact (hm_un (hm_ne hp6 hm0 (fun q => by cases q))).trans hp6
    refine lv_if_ne (tgt := 45) hx hb dX8_addPlayer_21 (by decide) (fun _ => ?_) (fun c33 => absurd c33 (by decide))
    refine lv_iconst (v := 0) hx hb dX8_addPlayer_45 (by decide) ?_
    have hfr9 : hm_fr (mS m0 r) f fn3 := by
      rw [efn3]
      exact (hm_fr.rf (S := mS m0 r)).up mS_0
    exact hm_iret hx hb hr hlocks hS hH (⟨Or.inr ⟨by rw [hb2]; exact (show (1 : Int32) ≠ 0 by decide), ⟨_, rfl⟩, by rw [hb2]; exact MW.mk hm4 ⟨⟨h19, h20, h21, h22, h23, h24, h25⟩, ⟨_, _, _, _, _, _, _, h26, h27, h28, h29, h30, h31, h32⟩, h5, ⟨h6, h7, h8, h9, h10, h11, h12, h13, h14⟩, h15, h16, h17, h18⟩⟩, hfr9.k⟩) (Nat.le_of_ble_eq_true rfl) (Nat.le_of_ble_eq_true rfl) dX8_addPlayer_46
  · refine lv_iload_n hx hb dX8_addPlayer_5 rfl (lv_at hl 1 rfl) ?_
    refine lv_sipush (v := 9999) hx hb dX8_addPlayer_6 (by decide) ?_
    refine lv_icmp_gt (tgt := 16) hx hb dX8_addPlayer_9 (by decide) (fun c34 => ?_) (fun c34 => ?_)
    · refine lv_iconst (v := 0) hx hb dX8_addPlayer_16 (by decide) ?_
      refine lv_iconst (v := 1) hx hb dX8_addPlayer_17 (by decide) ?_
      have hb35 : (inR v0 0 9999) = false := (by unfold inR; rw [decide_eq_false (Int32.not_le.mpr c34), Bool.and_false])
      refine W.eq (g2 := F0 m 18 ls [.int 1, .int (bI (inR v0 0 9999)), .ref m0]) (by rw [hb35]; rfl) ?_
      refine hm_callV (rest := []) (k := 1) q5_119 q5_121 q1_9 q5_122 q0_17 rfl nm_X8_no rfl hx hb hml hown hts hK hO hS hH hl.1 hm0 (c_X8_no Γ l m0 r th (nI np) (nI ng) (nI nt) (nI kp) (nI rr) ck lim dz gd hih mih fh msh msm mso sp rf (inR v0 0 9999) 1 f hm0) ⟨Nat.le_of_ble_eq_true rfl, Nat.le_of_ble_eq_true rfl⟩ ⟨Nat.le_of_ble_eq_true rfl, Nat.le_of_ble_eq_true rfl⟩ rfl (Nat.le_of_ble_eq_true rfl) dX8_addPlayer_18 (fun v_ fn36 H locs hp_ hH hS => ?_)
      obtain ⟨rfl, efn36⟩ := hp_
      rw [hb35] at efn36
      refine W.eq (g2 := F0 m 21 ls [.int 1]) (by rw [hb35]; rfl) ?_
      have hm37 : fn36 m0 = some (eM r 1 (nI np) (nI ng) (nI nt) (nI kp) (nI rr) ck lim dz gd hih mih fh msh msm mso sp rf) := by rw [efn36]; exact hm_us
      have h38 : fn36 ((r 0)) = some (eI Γ 4 mon) := by rw [efn36]; exact (hm_un (hm_ne h0 hm0 (fun q => by cases q))).trans h0
      have h39 : fn36 ((r 1)) = some (eJ Γ 8 (fun i => b4 (gs i).2.1)) := by rw [efn36]; exact (hm_un (hm_ne hg1 hm0 (fun q => by cases q))).trans hg1
      have h40 : fn36 ((r 2)) = some (eI Γ 8 (fun i => nI (gs i).2.2.1)) := by rw [efn36]; exact (hm_un (hm_ne hg2 hm0 (fun q => by cases q))).trans hg2
      have h41 : fn36 ((r 3)) = some (eI Γ 8 (fun i => nI (gs i).1)) := by rw [efn36]; exact (hm_un (hm_ne hg3 hm0 (fun q => by cases q))).trans hg3
      have h42 : fn36 ((r 4)) = some (eI Γ 8 (fun i => (gs i).2.2.2.1)) := by rw [efn36]; exact (hm_un (hm_ne hg4 hm0 (fun q => by cases q))).trans hg4
      have h43 : fn36 ((r 5)) = some (eI Γ 8 (fun i => (gs i).2.2.2.2.1)) := by rw [efn36]; exact (hm_un (hm_ne hg5 hm0 (fun q => by cases q))).trans hg5
      have h44 : fn36 ((r 6)) = some (eI Γ 8 (fun i => (gs i).2.2.2.2.2.1)) := by rw [efn36]; exact (hm_un (hm_ne hg6 hm0 (fun q => by cases q))).trans hg6
      have h45 : fn36 ((r 7)) = some (eI Γ 8 (fun i => (gs i).2.2.2.2.2.2.1)) := by rw [efn36]; exact (hm_un (hm_ne hg7 hm0 (fun q => by cases q))).trans hg7
      have h46 : fn36 ((r 8)) = some (eI Γ 8 (fun i => (gs i).2.2.2.2.2.2.2.1)) := by rw [efn36]; exact (hm_un (hm_ne hg8 hm0 (fun q => by cases q))).trans hg8
      have h47 : fn36 ((r 9)) = some (eZ Γ 8 (fun i => bI (gs i).2.2.2.2.2.2.2.2)) := by rw [efn36]; exact (hm_un (hm_ne hg9 hm0 (fun q => by cases q))).trans hg9
      have h48 : fn36 ((r 10)) = some (eJ Γ 60 (fun i => b4 (ts i).2.1)) := by rw [efn36]; exact (hm_un (hm_ne ht10 hm0 (fun q => by cases q))).trans ht10
      have h49 : fn36 ((r 11)) = some (eI Γ 60 (fun i => nI (ts i).2.2.1)) := by rw [efn36]; exact (hm_un (hm_ne ht11 hm0 (fun q => by cases q))).trans ht11
      have h50 : fn36 ((r 12)) = some (eI Γ 60 (fun i => nI (ts i).1)) := by rw [efn36]; exact (hm_un (hm_ne ht12 hm0 (fun q => by cases q))).trans ht12
      have h51 : fn36 ((r 13)) = some (eI Γ 60 (fun i => (ts i).2.2.2)) := by rw [efn36]; exact (hm_un (hm_ne ht13 hm0 (fun q => by cases q))).trans ht13
      have h52 : fn36 ((r 14)) = some (eJ Γ 64 (fun j => (K j).1)) := by rw [efn36]; exact (hm_un (hm_ne hk0 hm0 (fun q => by cases q))).trans hk0
      have h53 : fn36 ((r 15)) = some (eI Γ 64 (fun j => (K j).2.1)) := by rw [efn36]; exact (hm_un (hm_ne hk1 hm0 (fun q => by cases q))).trans hk1
      have h54 : fn36 ((r 16)) = some (eI Γ 64 (fun j => (K j).2.2.1)) := by rw [efn36]; exact (hm_un (hm_ne hk2 hm0 (fun q => by cases q))).trans hk2
      have h55 : fn36 ((r 17)) = some (eI Γ 64 (fun j => (K j).2.2.2.1)) := by rw [efn36]; exact (hm_un (hm_ne hk3 hm0 (fun q => by cases q))).trans hk3
      have h56 : fn36 ((r 18)) = some (eI Γ 64 (fun j => (K j).2.2.2.2.1)) := by rw [efn36]; exact (hm_un (hm_ne hk4 hm0 (fun q => by cases q))).trans hk4
      have h57 : fn36 ((r 19)) = some (eI Γ 64 (fun j => (K j).2.2.2.2.2.1)) := by rw [efn36]; exact (hm_un (hm_ne hk5 hm0 (fun q => by cases q))).trans hk5
      have h58 : fn36 ((r 20)) = some (eI Γ 64 (fun j => (K j).2.2.2.2.2.2)) := by rw [efn36]; exact (hm_un (hm_ne hk6 hm0 (fun q => by cases q))).trans hk6
      have h59 : fn36 ((r 21)) = some (eJ Γ 6 pb) := by rw [efn36]; exact (hm_un (hm_ne hp0 hm0 (fun q => by cases q))).trans hp0
      have h60 : fn36 ((r 22)) = some (eI Γ 6 pz) := by rw [efn36]; exact (hm_un (hm_ne hp1 hm0 (fun q => by cases q))).trans hp1
      have h61 : fn36 ((r 23)) = some (eI Γ 6 pd) := by rw [efn36]; exact (hm_un (hm_ne hp2 hm0 (fun q => by cases q))).trans hp2
      have h62 : fn36 ((r 24)) = some (eI Γ 6 pn) := by rw [efn36]; exact (hm_un (hm_ne hp3 hm0 (fun q => by cases q))).trans hp3
      have h63 : fn36 ((r 25)) = some (eI Γ 6 pe) := by rw [efn36]; exact (hm_un (hm_ne hp4 hm0 (fun q => by cases q))).trans hp4
      have h64 : fn36 ((r 26)) = some (eI Γ 6 ph) := by rw [efn36]; exact (hm_un (hm_ne hp5 hm0 (fun q => by cases q))).trans hp5
      have h65 : fn36 ((r 27)) = some (eI Γ 6 pg) := by rw [efn36]; exact (hm_un (hm_ne hp6 hm0 (fun q => by cases q))).trans hp6
      refine lv_if_ne (tgt := 45) hx hb dX8_addPlayer_21 (by decide) (fun _ => ?_) (fun c66 => absurd c66 (by decide))
      refine lv_iconst (v := 0) hx hb dX8_addPlayer_45 (by decide) ?_
      have hfr9 : hm_fr (mS m0 r) f fn36 := by
        rw [efn36]
        exact (hm_fr.rf (S := mS m0 r)).up mS_0
      exact hm_iret hx hb hr hlocks hS hH (⟨Or.inr ⟨by rw [hb35]; exact (show (1 : Int32) ≠ 0 by decide), ⟨_, rfl⟩, by rw [hb35]; exact MW.mk hm37 ⟨⟨h52, h53, h54, h55, h56, h57, h58⟩, ⟨_, _, _, _, _, _, _, h59, h60, h61, h62, h63, h64, h65⟩, h38, ⟨h39, h40, h41, h42, h43, h44, h45, h46, h47⟩, h48, h49, h50, h51⟩⟩, hfr9.k⟩) (Nat.le_of_ble_eq_true rfl) (Nat.le_of_ble_eq_true rfl) dX8_addPlayer_46
    · refine lv_iconst (v := 1) hx hb dX8_addPlayer_12 (by decide) ?_
      refine lv_goto (tgt := 17) hx hb dX8_addPlayer_13 (by decide) ?_
      refine lv_iconst (v := 1) hx hb dX8_addPlayer_17 (by decide) ?_
      have hb67 : (inR v0 0 9999) = true := (by unfold inR; rw [decide_eq_true (Int32.not_lt.mp c1), decide_eq_true (Int32.not_lt.mp c34)]; rfl)
      refine W.eq (g2 := F0 m 18 ls [.int 1, .int (bI (inR v0 0 9999)), .ref m0]) (by rw [hb67]; rfl) ?_
      refine hm_callV (rest := []) (k := 1) q5_119 q5_121 q1_9 q5_122 q0_17 rfl nm_X8_no rfl hx hb hml hown hts hK hO hS hH hl.1 hm0 (c_X8_no Γ l m0 r th (nI np) (nI ng) (nI nt) (nI kp) (nI rr) ck lim dz gd hih mih fh msh msm mso sp rf (inR v0 0 9999) 1 f hm0) ⟨Nat.le_of_ble_eq_true rfl, Nat.le_of_ble_eq_true rfl⟩ ⟨Nat.le_of_ble_eq_true rfl, Nat.le_of_ble_eq_true rfl⟩ rfl (Nat.le_of_ble_eq_true rfl) dX8_addPlayer_18 (fun v_ fn68 H locs hp_ hH hS => ?_)
      obtain ⟨rfl, efn68⟩ := hp_
      rw [hb67] at efn68
      refine W.eq (g2 := F0 m 21 ls [.int 0]) (by rw [hb67]; rfl) ?_
      have hm69 : fn68 m0 = some (eM r 0 (nI np) (nI ng) (nI nt) (nI kp) (nI rr) ck lim dz gd hih mih fh msh msm mso sp rf) := by rw [efn68]; exact hm_us
      have h70 : fn68 ((r 0)) = some (eI Γ 4 mon) := by rw [efn68]; exact (hm_un (hm_ne h0 hm0 (fun q => by cases q))).trans h0
      have h71 : fn68 ((r 1)) = some (eJ Γ 8 (fun i => b4 (gs i).2.1)) := by rw [efn68]; exact (hm_un (hm_ne hg1 hm0 (fun q => by cases q))).trans hg1
      have h72 : fn68 ((r 2)) = some (eI Γ 8 (fun i => nI (gs i).2.2.1)) := by rw [efn68]; exact (hm_un (hm_ne hg2 hm0 (fun q => by cases q))).trans hg2
      have h73 : fn68 ((r 3)) = some (eI Γ 8 (fun i => nI (gs i).1)) := by rw [efn68]; exact (hm_un (hm_ne hg3 hm0 (fun q => by cases q))).trans hg3
      have h74 : fn68 ((r 4)) = some (eI Γ 8 (fun i => (gs i).2.2.2.1)) := by rw [efn68]; exact (hm_un (hm_ne hg4 hm0 (fun q => by cases q))).trans hg4
      have h75 : fn68 ((r 5)) = some (eI Γ 8 (fun i => (gs i).2.2.2.2.1)) := by rw [efn68]; exact (hm_un (hm_ne hg5 hm0 (fun q => by cases q))).trans hg5
      have h76 : fn68 ((r 6)) = some (eI Γ 8 (fun i => (gs i).2.2.2.2.2.1)) := by rw [efn68]; exact (hm_un (hm_ne hg6 hm0 (fun q => by cases q))).trans hg6
      have h77 : fn68 ((r 7)) = some (eI Γ 8 (fun i => (gs i).2.2.2.2.2.2.1)) := by rw [efn68]; exact (hm_un (hm_ne hg7 hm0 (fun q => by cases q))).trans hg7
      have h78 : fn68 ((r 8)) = some (eI Γ 8 (fun i => (gs i).2.2.2.2.2.2.2.1)) := by rw [efn68]; exact (hm_un (hm_ne hg8 hm0 (fun q => by cases q))).trans hg8
      have h79 : fn68 ((r 9)) = some (eZ Γ 8 (fun i => bI (gs i).2.2.2.2.2.2.2.2)) := by rw [efn68]; exact (hm_un (hm_ne hg9 hm0 (fun q => by cases q))).trans hg9
      have h80 : fn68 ((r 10)) = some (eJ Γ 60 (fun i => b4 (ts i).2.1)) := by rw [efn68]; exact (hm_un (hm_ne ht10 hm0 (fun q => by cases q))).trans ht10
      have h81 : fn68 ((r 11)) = some (eI Γ 60 (fun i => nI (ts i).2.2.1)) := by rw [efn68]; exact (hm_un (hm_ne ht11 hm0 (fun q => by cases q))).trans ht11
      have h82 : fn68 ((r 12)) = some (eI Γ 60 (fun i => nI (ts i).1)) := by rw [efn68]; exact (hm_un (hm_ne ht12 hm0 (fun q => by cases q))).trans ht12
      have h83 : fn68 ((r 13)) = some (eI Γ 60 (fun i => (ts i).2.2.2)) := by rw [efn68]; exact (hm_un (hm_ne ht13 hm0 (fun q => by cases q))).trans ht13
      have h84 : fn68 ((r 14)) = some (eJ Γ 64 (fun j => (K j).1)) := by rw [efn68]; exact (hm_un (hm_ne hk0 hm0 (fun q => by cases q))).trans hk0
      have h85 : fn68 ((r 15)) = some (eI Γ 64 (fun j => (K j).2.1)) := by rw [efn68]; exact (hm_un (hm_ne hk1 hm0 (fun q => by cases q))).trans hk1
      have h86 : fn68 ((r 16)) = some (eI Γ 64 (fun j => (K j).2.2.1)) := by rw [efn68]; exact (hm_un (hm_ne hk2 hm0 (fun q => by cases q))).trans hk2
      have h87 : fn68 ((r 17)) = some (eI Γ 64 (fun j => (K j).2.2.2.1)) := by rw [efn68]; exact (hm_un (hm_ne hk3 hm0 (fun q => by cases q))).trans hk3
      have h88 : fn68 ((r 18)) = some (eI Γ 64 (fun j => (K j).2.2.2.2.1)) := by rw [efn68]; exact (hm_un (hm_ne hk4 hm0 (fun q => by cases q))).trans hk4
      have h89 : fn68 ((r 19)) = some (eI Γ 64 (fun j => (K j).2.2.2.2.2.1)) := by rw [efn68]; exact (hm_un (hm_ne hk5 hm0 (fun q => by cases q))).trans hk5
      have h90 : fn68 ((r 20)) = some (eI Γ 64 (fun j => (K j).2.2.2.2.2.2)) := by rw [efn68]; exact (hm_un (hm_ne hk6 hm0 (fun q => by cases q))).trans hk6
      have h91 : fn68 ((r 21)) = some (eJ Γ 6 pb) := by rw [efn68]; exact (hm_un (hm_ne hp0 hm0 (fun q => by cases q))).trans hp0
      have h92 : fn68 ((r 22)) = some (eI Γ 6 pz) := by rw [efn68]; exact (hm_un (hm_ne hp1 hm0 (fun q => by cases q))).trans hp1
      have h93 : fn68 ((r 23)) = some (eI Γ 6 pd) := by rw [efn68]; exact (hm_un (hm_ne hp2 hm0 (fun q => by cases q))).trans hp2
      have h94 : fn68 ((r 24)) = some (eI Γ 6 pn) := by rw [efn68]; exact (hm_un (hm_ne hp3 hm0 (fun q => by cases q))).trans hp3
      have h95 : fn68 ((r 25)) = some (eI Γ 6 pe) := by rw [efn68]; exact (hm_un (hm_ne hp4 hm0 (fun q => by cases q))).trans hp4
      have h96 : fn68 ((r 26)) = some (eI Γ 6 ph) := by rw [efn68]; exact (hm_un (hm_ne hp5 hm0 (fun q => by cases q))).trans hp5
      have h97 : fn68 ((r 27)) = some (eI Γ 6 pg) := by rw [efn68]; exact (hm_un (hm_ne hp6 hm0 (fun q => by cases q))).trans hp6
      refine lv_if_ne (tgt := 45) hx hb dX8_addPlayer_21 (by decide) (fun c98 => absurd (by decide) c98) (fun _ => ?_)
      refine lv_aload_n hx hb dX8_addPlayer_24 rfl (lv_at hl 0 rfl) ?_
      refine lv_aload_n hx hb dX8_addPlayer_25 rfl (lv_at hl 0 rfl) ?_
      refine gf_X8_148 hx hb hts hown hK hH hm69 rfl dX8_addPlayer_26 ?_
      refine lv_iconst (v := 4) hx hb dX8_addPlayer_29 (by decide) ?_
      refine lv_icmp_ge (tgt := 37) hx hb dX8_addPlayer_30 (by decide) (fun c99 => ?_) (fun c99 => ?_)
      · refine lv_iconst (v := 0) hx hb dX8_addPlayer_37 (by decide) ?_
        refine lv_iconst (v := 2) hx hb dX8_addPlayer_38 (by decide) ?_
        have hb100 : (decide (np < 4)) = false := decide_eq_false (fun q => absurd (nI_lt q (by decide)) (Int32.not_lt.mpr c99))
        refine W.eq (g2 := F0 m 39 ls [.int 2, .int (bI (decide (np < 4))), .ref m0]) (by rw [hb100]; rfl) ?_
        refine hm_callV (rest := []) (k := 1) q5_119 q5_121 q1_9 q5_122 q0_17 rfl nm_X8_no rfl hx hb hml hown hts hK hO hS hH hl.1 hm69 (c_X8_no Γ l m0 r 0 (nI np) (nI ng) (nI nt) (nI kp) (nI rr) ck lim dz gd hih mih fh msh msm mso sp rf (decide (np < 4)) 2 fn68 hm69) ⟨Nat.le_of_ble_eq_true rfl, Nat.le_of_ble_eq_true rfl⟩ ⟨Nat.le_of_ble_eq_true rfl, Nat.le_of_ble_eq_true rfl⟩ rfl (Nat.le_of_ble_eq_true rfl) dX8_addPlayer_39 (fun v_ fn101 H locs hp_ hH hS => ?_)
        obtain ⟨rfl, efn101⟩ := hp_
        rw [hb100] at efn101
        refine W.eq (g2 := F0 m 42 ls [.int 1]) (by rw [hb100]; rfl) ?_
        have hm102 : fn101 m0 = some (eM r 2 (nI np) (nI ng) (nI nt) (nI kp) (nI rr) ck lim dz gd hih mih fh msh msm mso sp rf) := by rw [efn101]; exact hm_us
        have h103 : fn101 ((r 0)) = some (eI Γ 4 mon) := by rw [efn101]; exact (hm_un (hm_ne h70 hm69 (fun q => by cases q))).trans h70
        have h104 : fn101 ((r 1)) = some (eJ Γ 8 (fun i => b4 (gs i).2.1)) := by rw [efn101]; exact (hm_un (hm_ne h71 hm69 (fun q => by cases q))).trans h71
        have h105 : fn101 ((r 2)) = some (eI Γ 8 (fun i => nI (gs i).2.2.1)) := by rw [efn101]; exact (hm_un (hm_ne h72 hm69 (fun q => by cases q))).trans h72
        have h106 : fn101 ((r 3)) = some (eI Γ 8 (fun i => nI (gs i).1)) := by rw [efn101]; exact (hm_un (hm_ne h73 hm69 (fun q => by cases q))).trans h73
        have h107 : fn101 ((r 4)) = some (eI Γ 8 (fun i => (gs i).2.2.2.1)) := by rw [efn101]; exact (hm_un (hm_ne h74 hm69 (fun q => by cases q))).trans h74
        have h108 : fn101 ((r 5)) = some (eI Γ 8 (fun i => (gs i).2.2.2.2.1)) := by rw [efn101]; exact (hm_un (hm_ne h75 hm69 (fun q => by cases q))).trans h75
        have h109 : fn101 ((r 6)) = some (eI Γ 8 (fun i => (gs i).2.2.2.2.2.1)) := by rw [efn101]; exact (hm_un (hm_ne h76 hm69 (fun q => by cases q))).trans h76
        have h110 : fn101 ((r 7)) = some (eI Γ 8 (fun i => (gs i).2.2.2.2.2.2.1)) := by rw [efn101]; exact (hm_un (hm_ne h77 hm69 (fun q => by cases q))).trans h77
        have h111 : fn101 ((r 8)) = some (eI Γ 8 (fun i => (gs i).2.2.2.2.2.2.2.1)) := by rw [efn101]; exact (hm_un (hm_ne h78 hm69 (fun q => by cases q))).trans h78
        have h112 : fn101 ((r 9)) = some (eZ Γ 8 (fun i => bI (gs i).2.2.2.2.2.2.2.2)) := by rw [efn101]; exact (hm_un (hm_ne h79 hm69 (fun q => by cases q))).trans h79
        have h113 : fn101 ((r 10)) = some (eJ Γ 60 (fun i => b4 (ts i).2.1)) := by rw [efn101]; exact (hm_un (hm_ne h80 hm69 (fun q => by cases q))).trans h80
        have h114 : fn101 ((r 11)) = some (eI Γ 60 (fun i => nI (ts i).2.2.1)) := by rw [efn101]; exact (hm_un (hm_ne h81 hm69 (fun q => by cases q))).trans h81
        have h115 : fn101 ((r 12)) = some (eI Γ 60 (fun i => nI (ts i).1)) := by rw [efn101]; exact (hm_un (hm_ne h82 hm69 (fun q => by cases q))).trans h82
        have h116 : fn101 ((r 13)) = some (eI Γ 60 (fun i => (ts i).2.2.2)) := by rw [efn101]; exact (hm_un (hm_ne h83 hm69 (fun q => by cases q))).trans h83
        have h117 : fn101 ((r 14)) = some (eJ Γ 64 (fun j => (K j).1)) := by rw [efn101]; exact (hm_un (hm_ne h84 hm69 (fun q => by cases q))).trans h84
        have h118 : fn101 ((r 15)) = some (eI Γ 64 (fun j => (K j).2.1)) := by rw [efn101]; exact (hm_un (hm_ne h85 hm69 (fun q => by cases q))).trans h85
        have h119 : fn101 ((r 16)) = some (eI Γ 64 (fun j => (K j).2.2.1)) := by rw [efn101]; exact (hm_un (hm_ne h86 hm69 (fun q => by cases q))).trans h86
        have h120 : fn101 ((r 17)) = some (eI Γ 64 (fun j => (K j).2.2.2.1)) := by rw [efn101]; exact (hm_un (hm_ne h87 hm69 (fun q => by cases q))).trans h87
        have h121 : fn101 ((r 18)) = some (eI Γ 64 (fun j => (K j).2.2.2.2.1)) := by rw [efn101]; exact (hm_un (hm_ne h88 hm69 (fun q => by cases q))).trans h88
        have h122 : fn101 ((r 19)) = some (eI Γ 64 (fun j => (K j).2.2.2.2.2.1)) := by rw [efn101]; exact (hm_un (hm_ne h89 hm69 (fun q => by cases q))).trans h89
        have h123 : fn101 ((r 20)) = some (eI Γ 64 (fun j => (K j).2.2.2.2.2.2)) := by rw [efn101]; exact (hm_un (hm_ne h90 hm69 (fun q => by cases q))).trans h90
        have h124 : fn101 ((r 21)) = some (eJ Γ 6 pb) := by rw [efn101]; exact (hm_un (hm_ne h91 hm69 (fun q => by cases q))).trans h91
        have h125 : fn101 ((r 22)) = some (eI Γ 6 pz) := by rw [efn101]; exact (hm_un (hm_ne h92 hm69 (fun q => by cases q))).trans h92
        have h126 : fn101 ((r 23)) = some (eI Γ 6 pd) := by rw [efn101]; exact (hm_un (hm_ne h93 hm69 (fun q => by cases q))).trans h93
        have h127 : fn101 ((r 24)) = some (eI Γ 6 pn) := by rw [efn101]; exact (hm_un (hm_ne h94 hm69 (fun q => by cases q))).trans h94
        have h128 : fn101 ((r 25)) = some (eI Γ 6 pe) := by rw [efn101]; exact (hm_un (hm_ne h95 hm69 (fun q => by cases q))).trans h95
        have h129 : fn101 ((r 26)) = some (eI Γ 6 ph) := by rw [efn101]; exact (hm_un (hm_ne h96 hm69 (fun q => by cases q))).trans h96
        have h130 : fn101 ((r 27)) = some (eI Γ 6 pg) := by rw [efn101]; exact (hm_un (hm_ne h97 hm69 (fun q => by cases q))).trans h97
        refine lv_if_eq (tgt := 47) hx hb dX8_addPlayer_42 (by decide) (fun c131 => absurd c131 (by decide)) (fun _ => ?_)
        refine lv_iconst (v := 0) hx hb dX8_addPlayer_45 (by decide) ?_
        have hfr9 : hm_fr (mS m0 r) f fn101 := by
          rw [efn101, efn68]
          exact ((hm_fr.rf (S := mS m0 r)).up mS_0).up mS_0
        exact hm_iret hx hb hr hlocks hS hH (⟨Or.inr ⟨by rw [hb67]; rw [hb100]; exact (show (2 : Int32) ≠ 0 by decide), ⟨_, rfl⟩, by rw [hb67]; rw [hb100]; exact MW.mk hm102 ⟨⟨h117, h118, h119, h120, h121, h122, h123⟩, ⟨_, _, _, _, _, _, _, h124, h125, h126, h127, h128, h129, h130⟩, h103, ⟨h104, h105, h106, h107, h108, h109, h110, h111, h112⟩, h113, h114, h115, h116⟩⟩, hfr9.k⟩) (Nat.le_of_ble_eq_true rfl) (Nat.le_of_ble_eq_true rfl) dX8_addPlayer_46
      · refine lv_iconst (v := 1) hx hb dX8_addPlayer_33 (by decide) ?_
        refine lv_goto (tgt := 38) hx hb dX8_addPlayer_34 (by decide) ?_
        refine lv_iconst (v := 2) hx hb dX8_addPlayer_38 (by decide) ?_
        have hb132 : (decide (np < 4)) = true := decide_eq_true ((nI_ltI (by omega) (by decide)).mp (Int32.not_le.mp c99))
        refine W.eq (g2 := F0 m 39 ls [.int 2, .int (bI (decide (np < 4))), .ref m0]) (by rw [hb132]; rfl) ?_
        refine hm_callV (rest := []) (k := 1) q5_119 q5_121 q1_9 q5_122 q0_17 rfl nm_X8_no rfl hx hb hml hown hts hK hO hS hH hl.1 hm69 (c_X8_no Γ l m0 r 0 (nI np) (nI ng) (nI nt) (nI kp) (nI rr) ck lim dz gd hih mih fh msh msm mso sp rf (decide (np < 4)) 2 fn68 hm69) ⟨Nat.le_of_ble_eq_true rfl, Nat.le_of_ble_eq_true rfl⟩ ⟨Nat.le_of_ble_eq_true rfl, Nat.le_of_ble_eq_true rfl⟩ rfl (Nat.le_of_ble_eq_true rfl) dX8_addPlayer_39 (fun v_ fn133 H locs hp_ hH hS => ?_)
        obtain ⟨rfl, efn133⟩ := hp_
        rw [hb132] at efn133
        refine W.eq (g2 := F0 m 42 ls [.int 0]) (by rw [hb132]; rfl) ?_
        have hm134 : fn133 m0 = some (eM r 0 (nI np) (nI ng) (nI nt) (nI kp) (nI rr) ck lim dz gd hih mih fh msh msm mso sp rf) := by rw [efn133]; exact hm_us
        have h135 : fn133 ((r 0)) = some (eI Γ 4 mon) := by rw [efn133]; exact (hm_un (hm_ne h70 hm69 (fun q => by cases q))).trans h70
        have h136 : fn133 ((r 1)) = some (eJ Γ 8 (fun i => b4 (gs i).2.1)) := by rw [efn133]; exact (hm_un (hm_ne h71 hm69 (fun q => by cases q))).trans h71
        have h137 : fn133 ((r 2)) = some (eI Γ 8 (fun i => nI (gs i).2.2.1)) := by rw [efn133]; exact (hm_un (hm_ne h72 hm69 (fun q => by cases q))).trans h72
        have h138 : fn133 ((r 3)) = some (eI Γ 8 (fun i => nI (gs i).1)) := by rw [efn133]; exact (hm_un (hm_ne h73 hm69 (fun q => by cases q))).trans h73
        have h139 : fn133 ((r 4)) = some (eI Γ 8 (fun i => (gs i).2.2.2.1)) := by rw [efn133]; exact (hm_un (hm_ne h74 hm69 (fun q => by cases q))).trans h74
        have h140 : fn133 ((r 5)) = some (eI Γ 8 (fun i => (gs i).2.2.2.2.1)) := by rw [efn133]; exact (hm_un (hm_ne h75 hm69 (fun q => by cases q))).trans h75
        have h141 : fn133 ((r 6)) = some (eI Γ 8 (fun i => (gs i).2.2.2.2.2.1)) := by rw [efn133]; exact (hm_un (hm_ne h76 hm69 (fun q => by cases q))).trans h76
        have h142 : fn133 ((r 7)) = some (eI Γ 8 (fun i => (gs i).2.2.2.2.2.2.1)) := by rw [efn133]; exact (hm_un (hm_ne h77 hm69 (fun q => by cases q))).trans h77
        have h143 : fn133 ((r 8)) = some (eI Γ 8 (fun i => (gs i).2.2.2.2.2.2.2.1)) := by rw [efn133]; exact (hm_un (hm_ne h78 hm69 (fun q => by cases q))).trans h78
        have h144 : fn133 ((r 9)) = some (eZ Γ 8 (fun i => bI (gs i).2.2.2.2.2.2.2.2)) := by rw [efn133]; exact (hm_un (hm_ne h79 hm69 (fun q => by cases q))).trans h79
        have h145 : fn133 ((r 10)) = some (eJ Γ 60 (fun i => b4 (ts i).2.1)) := by rw [efn133]; exact (hm_un (hm_ne h80 hm69 (fun q => by cases q))).trans h80
        have h146 : fn133 ((r 11)) = some (eI Γ 60 (fun i => nI (ts i).2.2.1)) := by rw [efn133]; exact (hm_un (hm_ne h81 hm69 (fun q => by cases q))).trans h81
        have h147 : fn133 ((r 12)) = some (eI Γ 60 (fun i => nI (ts i).1)) := by rw [efn133]; exact (hm_un (hm_ne h82 hm69 (fun q => by cases q))).trans h82
        have h148 : fn133 ((r 13)) = some (eI Γ 60 (fun i => (ts i).2.2.2)) := by rw [efn133]; exact (hm_un (hm_ne h83 hm69 (fun q => by cases q))).trans h83
        have h149 : fn133 ((r 14)) = some (eJ Γ 64 (fun j => (K j).1)) := by rw [efn133]; exact (hm_un (hm_ne h84 hm69 (fun q => by cases q))).trans h84
        have h150 : fn133 ((r 15)) = some (eI Γ 64 (fun j => (K j).2.1)) := by rw [efn133]; exact (hm_un (hm_ne h85 hm69 (fun q => by cases q))).trans h85
        have h151 : fn133 ((r 16)) = some (eI Γ 64 (fun j => (K j).2.2.1)) := by rw [efn133]; exact (hm_un (hm_ne h86 hm69 (fun q => by cases q))).trans h86
        have h152 : fn133 ((r 17)) = some (eI Γ 64 (fun j => (K j).2.2.2.1)) := by rw [efn133]; exact (hm_un (hm_ne h87 hm69 (fun q => by cases q))).trans h87
        have h153 : fn133 ((r 18)) = some (eI Γ 64 (fun j => (K j).2.2.2.2.1)) := by rw [efn133]; exact (hm_un (hm_ne h88 hm69 (fun q => by cases q))).trans h88
        have h154 : fn133 ((r 19)) = some (eI Γ 64 (fun j => (K j).2.2.2.2.2.1)) := by rw [efn133]; exact (hm_un (hm_ne h89 hm69 (fun q => by cases q))).trans h89
        have h155 : fn133 ((r 20)) = some (eI Γ 64 (fun j => (K j).2.2.2.2.2.2)) := by rw [efn133]; exact (hm_un (hm_ne h90 hm69 (fun q => by cases q))).trans h90
        have h156 : fn133 ((r 21)) = some (eJ Γ 6 pb) := by rw [efn133]; exact (hm_un (hm_ne h91 hm69 (fun q => by cases q))).trans h91
        have h157 : fn133 ((r 22)) = some (eI Γ 6 pz) := by rw [efn133]; exact (hm_un (hm_ne h92 hm69 (fun q => by cases q))).trans h92
        have h158 : fn133 ((r 23)) = some (eI Γ 6 pd) := by rw [efn133]; exact (hm_un (hm_ne h93 hm69 (fun q => by cases q))).trans h93
        have h159 : fn133 ((r 24)) = some (eI Γ 6 pn) := by rw [efn133]; exact (hm_un (hm_ne h94 hm69 (fun q => by cases q))).trans h94
        have h160 : fn133 ((r 25)) = some (eI Γ 6 pe) := by rw [efn133]; exact (hm_un (hm_ne h95 hm69 (fun q => by cases q))).trans h95
        have h161 : fn133 ((r 26)) = some (eI Γ 6 ph) := by rw [efn133]; exact (hm_un (hm_ne h96 hm69 (fun q => by cases q))).trans h96
        have h162 : fn133 ((r 27)) = some (eI Γ 6 pg) := by rw [efn133]; exact (hm_un (hm_ne h97 hm69 (fun q => by cases q))).trans h97
        refine lv_if_eq (tgt := 47) hx hb dX8_addPlayer_42 (by decide) (fun _ => ?_) (fun c163 => absurd (by decide) c163)
        have hnp4 : np < 4 := of_decide_eq_true hb132
        refine lv_aload_n hx hb dX8_addPlayer_47 rfl (lv_at hl 0 rfl) ?_
        refine gf_X8_7 hx hb hts hown hK hH hm134 rfl dX8_addPlayer_48 ?_
        refine lv_aload_n hx hb dX8_addPlayer_51 rfl (lv_at hl 0 rfl) ?_
        refine gf_X8_148 hx hb hts hown hK hH hm134 rfl dX8_addPlayer_52 ?_
        refine lv_iload_n hx hb dX8_addPlayer_55 rfl (lv_at hl 1 rfl) ?_
        refine hm_iast hx hb hK hO hS hH h135 (vp_in_nI hnp4 (by decide)) dX8_addPlayer_56 (fun H locs hH hS => ?_)
        rw [nI_clamp (n := np) (by omega)] at hH
        obtain ⟨f164, ef164⟩ : ∃ zz_, zz_ = hm_up fn133 ((r 0)) (eI Γ 4 (upd mon np v0)) := ⟨_, rfl⟩
        have hH : hm_H Γ f164 H := by rw [ef164]; exact hH
        have h165 : f164 ((r 0)) = some (eI Γ 4 (upd mon np v0)) := by rw [ef164]; exact hm_us
        have h166 : f164 m0 = some (eM r 0 (nI np) (nI ng) (nI nt) (nI kp) (nI rr) ck lim dz gd hih mih fh msh msm mso sp rf) := by rw [ef164]; exact (hm_un (hm_ne hm134 h135 (fun q => by cases q))).trans hm134
        have h167 : f164 ((r 1)) = some (eJ Γ 8 (fun i => b4 (gs i).2.1)) := by rw [ef164]; exact (hm_un (hrI 1 0 (by decide) (by decide) (by decide))).trans h136
        have h168 : f164 ((r 2)) = some (eI Γ 8 (fun i => nI (gs i).2.2.1)) := by rw [ef164]; exact (hm_un (hrI 2 0 (by decide) (by decide) (by decide))).trans h137
        have h169 : f164 ((r 3)) = some (eI Γ 8 (fun i => nI (gs i).1)) := by rw [ef164]; exact (hm_un (hrI 3 0 (by decide) (by decide) (by decide))).trans h138
        have h170 : f164 ((r 4)) = some (eI Γ 8 (fun i => (gs i).2.2.2.1)) := by rw [ef164]; exact (hm_un (hrI 4 0 (by decide) (by decide) (by decide))).trans h139
        have h171 : f164 ((r 5)) = some (eI Γ 8 (fun i => (gs i).2.2.2.2.1)) := by rw [ef164]; exact (hm_un (hrI 5 0 (by decide) (by decide) (by decide))).trans h140
        have h172 : f164 ((r 6)) = some (eI Γ 8 (fun i => (gs i).2.2.2.2.2.1)) := by rw [ef164]; exact (hm_un (hrI 6 0 (by decide) (by decide) (by decide))).trans h141
        have h173 : f164 ((r 7)) = some (eI Γ 8 (fun i => (gs i).2.2.2.2.2.2.1)) := by rw [ef164]; exact (hm_un (hrI 7 0 (by decide) (by decide) (by decide))).trans h142
        have h174 : f164 ((r 8)) = some (eI Γ 8 (fun i => (gs i).2.2.2.2.2.2.2.1)) := by rw [ef164]; exact (hm_un (hrI 8 0 (by decide) (by decide) (by decide))).trans h143
        have h175 : f164 ((r 9)) = some (eZ Γ 8 (fun i => bI (gs i).2.2.2.2.2.2.2.2)) := by rw [ef164]; exact (hm_un (hrI 9 0 (by decide) (by decide) (by decide))).trans h144
        have h176 : f164 ((r 10)) = some (eJ Γ 60 (fun i => b4 (ts i).2.1)) := by rw [ef164]; exact (hm_un (hrI 10 0 (by decide) (by decide) (by decide))).trans h145
        have h177 : f164 ((r 11)) = some (eI Γ 60 (fun i => nI (ts i).2.2.1)) := by rw [ef164]; exact (hm_un (hrI 11 0 (by decide) (by decide) (by decide))).trans h146
        have h178 : f164 ((r 12)) = some (eI Γ 60 (fun i => nI (ts i).1)) := by rw [ef164]; exact (hm_un (hrI 12 0 (by decide) (by decide) (by decide))).trans h147
        have h179 : f164 ((r 13)) = some (eI Γ 60 (fun i => (ts i).2.2.2)) := by rw [ef164]; exact (hm_un (hrI 13 0 (by decide) (by decide) (by decide))).trans h148
        have h180 : f164 ((r 14)) = some (eJ Γ 64 (fun j => (K j).1)) := by rw [ef164]; exact (hm_un (hrI 14 0 (by decide) (by decide) (by decide))).trans h149
        have h181 : f164 ((r 15)) = some (eI Γ 64 (fun j => (K j).2.1)) := by rw [ef164]; exact (hm_un (hrI 15 0 (by decide) (by decide) (by decide))).trans h150
        have h182 : f164 ((r 16)) = some (eI Γ 64 (fun j => (K j).2.2.1)) := by rw [ef164]; exact (hm_un (hrI 16 0 (by decide) (by decide) (by decide))).trans h151
        have h183 : f164 ((r 17)) = some (eI Γ 64 (fun j => (K j).2.2.2.1)) := by rw [ef164]; exact (hm_un (hrI 17 0 (by decide) (by decide) (by decide))).trans h152
        have h184 : f164 ((r 18)) = some (eI Γ 64 (fun j => (K j).2.2.2.2.1)) := by rw [ef164]; exact (hm_un (hrI 18 0 (by decide) (by decide) (by decide))).trans h153
        have h185 : f164 ((r 19)) = some (eI Γ 64 (fun j => (K j).2.2.2.2.2.1)) := by rw [ef164]; exact (hm_un (hrI 19 0 (by decide) (by decide) (by decide))).trans h154
        have h186 : f164 ((r 20)) = some (eI Γ 64 (fun j => (K j).2.2.2.2.2.2)) := by rw [ef164]; exact (hm_un (hrI 20 0 (by decide) (by decide) (by decide))).trans h155
        have h187 : f164 ((r 21)) = some (eJ Γ 6 pb) := by rw [ef164]; exact (hm_un (hrI 21 0 (by decide) (by decide) (by decide))).trans h156
        have h188 : f164 ((r 22)) = some (eI Γ 6 pz) := by rw [ef164]; exact (hm_un (hrI 22 0 (by decide) (by decide) (by decide))).trans h157
        have h189 : f164 ((r 23)) = some (eI Γ 6 pd) := by rw [ef164]; exact (hm_un (hrI 23 0 (by decide) (by decide) (by decide))).trans h158
        have h190 : f164 ((r 24)) = some (eI Γ 6 pn) := by rw [ef164]; exact (hm_un (hrI 24 0 (by decide) (by decide) (by decide))).trans h159
        have h191 : f164 ((r 25)) = some (eI Γ 6 pe) := by rw [ef164]; exact (hm_un (hrI 25 0 (by decide) (by decide) (by decide))).trans h160
        have h192 : f164 ((r 26)) = some (eI Γ 6 ph) := by rw [ef164]; exact (hm_un (hrI 26 0 (by decide) (by decide) (by decide))).trans h161
        have h193 : f164 ((r 27)) = some (eI Γ 6 pg) := by rw [ef164]; exact (hm_un (hrI 27 0 (by decide) (by decide) (by decide))).trans h162
        refine lv_aload_n hx hb dX8_addPlayer_57 rfl (lv_at hl 0 rfl) ?_
        refine lv_dup hx hb dX8_addPlayer_58 rfl ?_
        refine gf_X8_148 hx hb hts hown hK hH h166 rfl dX8_addPlayer_59 ?_
        refine lv_dup_x1 hx hb dX8_addPlayer_62 rfl rfl ?_
        refine lv_iconst (v := 1) hx hb dX8_addPlayer_63 (by decide) ?_
        refine lv_iadd hx hb dX8_addPlayer_64 ?_
        refine lv_topi (fun v194 ev194 => ?_)
        replace ev194 : v194 = (nI (np + 1)) := ev194.trans (nI_1 np)
        subst ev194
        refine pf_X8_148 hx hb hts hown hK hO hS hH h166 rfl (Nat.le_of_ble_eq_true rfl) rfl dX8_addPlayer_65 (fun H locs hH hS => ?_)
        obtain ⟨f195, ef195⟩ : ∃ zz_, zz_ = hm_up f164 m0 (eM r 0 ((nI (np + 1))) (nI ng) (nI nt) (nI kp) (nI rr) ck lim dz gd hih mih fh msh msm mso sp rf) := ⟨_, rfl⟩
        have hH : hm_H Γ f195 H := by rw [ef195]; exact hH
        have h196 : f195 m0 = some (eM r 0 ((nI (np + 1))) (nI ng) (nI nt) (nI kp) (nI rr) ck lim dz gd hih mih fh msh msm mso sp rf) := by rw [ef195]; exact hm_us
        have h197 : f195 ((r 0)) = some (eI Γ 4 (upd mon np v0)) := by rw [ef195]; exact (hm_un (hm_ne h165 h166 (fun q => by cases q))).trans h165
        have h198 : f195 ((r 1)) = some (eJ Γ 8 (fun i => b4 (gs i).2.1)) := by rw [ef195]; exact (hm_un (hm_ne h167 h166 (fun q => by cases q))).trans h167
        have h199 : f195 ((r 2)) = some (eI Γ 8 (fun i => nI (gs i).2.2.1)) := by rw [ef195]; exact (hm_un (hm_ne h168 h166 (fun q => by cases q))).trans h168
        have h200 : f195 ((r 3)) = some (eI Γ 8 (fun i => nI (gs i).1)) := by rw [ef195]; exact (hm_un (hm_ne h169 h166 (fun q => by cases q))).trans h169
        have h201 : f195 ((r 4)) = some (eI Γ 8 (fun i => (gs i).2.2.2.1)) := by rw [ef195]; exact (hm_un (hm_ne h170 h166 (fun q => by cases q))).trans h170
        have h202 : f195 ((r 5)) = some (eI Γ 8 (fun i => (gs i).2.2.2.2.1)) := by rw [ef195]; exact (hm_un (hm_ne h171 h166 (fun q => by cases q))).trans h171
        have h203 : f195 ((r 6)) = some (eI Γ 8 (fun i => (gs i).2.2.2.2.2.1)) := by rw [ef195]; exact (hm_un (hm_ne h172 h166 (fun q => by cases q))).trans h172
        have h204 : f195 ((r 7)) = some (eI Γ 8 (fun i => (gs i).2.2.2.2.2.2.1)) := by rw [ef195]; exact (hm_un (hm_ne h173 h166 (fun q => by cases q))).trans h173
        have h205 : f195 ((r 8)) = some (eI Γ 8 (fun i => (gs i).2.2.2.2.2.2.2.1)) := by rw [ef195]; exact (hm_un (hm_ne h174 h166 (fun q => by cases q))).trans h174
        have h206 : f195 ((r 9)) = some (eZ Γ 8 (fun i => bI (gs i).2.2.2.2.2.2.2.2)) := by rw [ef195]; exact (hm_un (hm_ne h175 h166 (fun q => by cases q))).trans h175
        have h207 : f195 ((r 10)) = some (eJ Γ 60 (fun i => b4 (ts i).2.1)) := by rw [ef195]; exact (hm_un (hm_ne h176 h166 (fun q => by cases q))).trans h176
        have h208 : f195 ((r 11)) = some (eI Γ 60 (fun i => nI (ts i).2.2.1)) := by rw [ef195]; exact (hm_un (hm_ne h177 h166 (fun q => by cases q))).trans h177
        have h209 : f195 ((r 12)) = some (eI Γ 60 (fun i => nI (ts i).1)) := by rw [ef195]; exact (hm_un (hm_ne h178 h166 (fun q => by cases q))).trans h178
        have h210 : f195 ((r 13)) = some (eI Γ 60 (fun i => (ts i).2.2.2)) := by rw [ef195]; exact (hm_un (hm_ne h179 h166 (fun q => by cases q))).trans h179
        have h211 : f195 ((r 14)) = some (eJ Γ 64 (fun j => (K j).1)) := by rw [ef195]; exact (hm_un (hm_ne h180 h166 (fun q => by cases q))).trans h180
        have h212 : f195 ((r 15)) = some (eI Γ 64 (fun j => (K j).2.1)) := by rw [ef195]; exact (hm_un (hm_ne h181 h166 (fun q => by cases q))).trans h181
        have h213 : f195 ((r 16)) = some (eI Γ 64 (fun j => (K j).2.2.1)) := by rw [ef195]; exact (hm_un (hm_ne h182 h166 (fun q => by cases q))).trans h182
        have h214 : f195 ((r 17)) = some (eI Γ 64 (fun j => (K j).2.2.2.1)) := by rw [ef195]; exact (hm_un (hm_ne h183 h166 (fun q => by cases q))).trans h183
        have h215 : f195 ((r 18)) = some (eI Γ 64 (fun j => (K j).2.2.2.2.1)) := by rw [ef195]; exact (hm_un (hm_ne h184 h166 (fun q => by cases q))).trans h184
        have h216 : f195 ((r 19)) = some (eI Γ 64 (fun j => (K j).2.2.2.2.2.1)) := by rw [ef195]; exact (hm_un (hm_ne h185 h166 (fun q => by cases q))).trans h185
        have h217 : f195 ((r 20)) = some (eI Γ 64 (fun j => (K j).2.2.2.2.2.2)) := by rw [ef195]; exact (hm_un (hm_ne h186 h166 (fun q => by cases q))).trans h186
        have h218 : f195 ((r 21)) = some (eJ Γ 6 pb) := by rw [ef195]; exact (hm_un (hm_ne h187 h166 (fun q => by cases q))).trans h187
        have h219 : f195 ((r 22)) = some (eI Γ 6 pz) := by rw [ef195]; exact (hm_un (hm_ne h188 h166 (fun q => by cases q))).trans h188
        have h220 : f195 ((r 23)) = some (eI Γ 6 pd) := by rw [ef195]; exact (hm_un (hm_ne h189 h166 (fun q => by cases q))).trans h189
        have h221 : f195 ((r 24)) = some (eI Γ 6 pn) := by rw [ef195]; exact (hm_un (hm_ne h190 h166 (fun q => by cases q))).trans h190
        have h222 : f195 ((r 25)) = some (eI Γ 6 pe) := by rw [ef195]; exact (hm_un (hm_ne h191 h166 (fun q => by cases q))).trans h191
        have h223 : f195 ((r 26)) = some (eI Γ 6 ph) := by rw [ef195]; exact (hm_un (hm_ne h192 h166 (fun q => by cases q))).trans h192
        have h224 : f195 ((r 27)) = some (eI Γ 6 pg) := by rw [ef195]; exact (hm_un (hm_ne h193 h166 (fun q => by cases q))).trans h193
        have hfr9 : hm_fr (mS m0 r) f f195 := by
          rw [ef195, ef164, efn133, efn68]
          exact ((((hm_fr.rf (S := mS m0 r)).up mS_0).up mS_0).up (mS_r (by decide))).up mS_0
        exact hm_iret hx hb hr hlocks hS hH (⟨Or.inl ⟨by rw [hb67]; rw [hb132]; rfl, rfl, MW.mk h196 ⟨⟨h211, h212, h213, h214, h215, h216, h217⟩, ⟨_, _, _, _, _, _, _, h218, h219, h220, h221, h222, h223, h224⟩, h197, ⟨h198, h199, h200, h201, h202, h203, h204, h205, h206⟩, h207, h208, h209, h210⟩⟩, hfr9.k⟩) (Nat.le_of_ble_eq_true rfl) (Nat.le_of_ble_eq_true rfl) dX8_addPlayer_68
