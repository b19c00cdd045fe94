/-! the model: push -/
theorem foB_4 {ts : Nat → TR} {t : Nat → Nat} {z own to : Nat} {nt : Nat} : folB (txs (fun i => nI (ts i).1) (fun i => b4 (ts i).2.1) (fun i => nI (ts i).2.2.1) (fun i => (ts i).2.2.2)) (b4 t) (nI z) (nI own) (nI to) nt = folB (fun i => tx4 (ts i)) (b4 t) (nI z) (nI own) (nI to) nt := rfl
set_option maxHeartbeats 4000000 in
set_option maxRecDepth 100000 in
theorem w_X8_push (Γ : Gm) (l : Launch) (m0 : Nat) (r : Nat → Nat) (th : Int32) (K : Nat → EV) (kp : Nat) (ck msh msm mso : Int32) (np : Nat) (mon : Nat → Int32) (ng : Nat) (gs : Nat → GS) (nt : Nat) (ts : Nat → TR) (lim : Int32) (rf sp : Int64) (rr : Nat) (v0 v1 : Int32) (f : Hm) (hM : MW Γ f m0 r th K kp ck msh msm mso np mon ng gs nt ts lim rf sp rr) (hnp : np ≤ 4) (hng : ng ≤ 8) (hnt : nt ≤ 60) (hr1 : 1 ≤ rr) (hrr : rr ≤ 64) (hkr : kp ≤ rr) (hrI : rI r) (hgs : GOK np ng gs) : Ct Γ l yX8_push cX8_push 6 (some .int) 4 0 0 [.ref m0, .int v0, .int v1] f (mP (if inB v0 (nI ng) then (if inB v1 4 then (if (!(gs (ix v0)).2.2.2.2.2.2.2.2 && goN (gs (ix v0)).2.1 (ix v1)) then 0 else 3) else 2) else 1) (nI (gainT (gs (ix v0)).2.1 (ix v1))) (mS m0 r) f (fun f' => MW Γ f' m0 r 0 K kp ck msh msm mso np mon ng ((setG gs (ix v0) ((gs (ix v0)).1, drawT (pushT (gs (ix v0)).2.1 (ix v1)) (gs (ix v0)).2.2.1, nxt (nxt (gs (ix v0)).2.2.1), (gs (ix v0)).2.2.2.1 + nI (gainT (gs (ix v0)).2.1 (ix v1)), (gs (ix v0)).2.2.2.2.1 + 1, (if (folB (fun i => tx4 (ts i)) (b4 (gs (ix v0)).2.1) (nI (gs (ix v0)).2.2.1) (nI (gs (ix v0)).1) v1 nt) then (gs (ix v0)).2.2.2.2.2.1 + 1 else 0), mxI (gs (ix v0)).2.2.2.2.2.2.1 (if (folB (fun i => tx4 (ts i)) (b4 (gs (ix v0)).2.1) (nI (gs (ix v0)).2.2.1) (nI (gs (ix v0)).1) v1 nt) then (gs (ix v0)).2.2.2.2.2.1 + 1 else 0), (gs (ix v0)).2.2.2.2.2.2.2.1, (gs (ix v0)).2.2.2.2.2.2.2.2))) nt ts lim rf sp rr) (fun f' => MW Γ f' m0 r ((if inB v0 (nI ng) then (if inB v1 4 then (if (!(gs (ix v0)).2.2.2.2.2.2.2.2 && goN (gs (ix v0)).2.1 (ix v1)) then 0 else 3) else 2) else 1)) K kp ck msh msm mso np mon ng gs nt ts lim rf sp rr)) := by
  refine Ct_of (by decide +kernel) (Nat.le_of_ble_eq_true rfl) ?_
  intro p e s m args below meth c hx hb hr hml hown hin hlocks hts hH hO hK ls hl
  have hl : lv_has ls 6 [(0, .ref m0), (1, .int v0), (2, .int v1)] := hl
  have hS : va_S (gA Γ) s.heap s.heap [] := va_S.rf
  obtain ⟨⟨dz, gd, hih, mih, fh, hm0⟩, hR⟩ := id hM
  obtain ⟨⟨hk0, hk1, hk2, hk3, hk4, hk5, hk6⟩, ⟨pb, pz, pd, pn, pe, ph, pg, hp0, hp1, hp2, hp3, hp4, hp5, hp6⟩, h0, ⟨hg1, hg2, hg3, hg4, hg5, hg6, hg7, hg8, hg9⟩, ht10, ht11, ht12, ht13⟩ := id hR
  refine lv_aload_n hx hb dX8_push_0 rfl (lv_at hl 0 rfl) ?_
  refine lv_iload_n hx hb dX8_push_1 rfl (lv_at hl 1 rfl) ?_
  refine hm_callV (rest := []) (k := 2) q5_146 q5_148 q1_9 q5_149 q0_19 rfl nm_X8_noGame rfl hx hb hml hown hts hK hO hS hH hl.1 hm0 (c_X8_noGame Γ l m0 r th (nI np) (nI ng) (nI nt) (nI kp) (nI rr) ck lim dz gd hih mih fh msh msm mso sp rf v0 f hm0) ⟨Nat.le_of_ble_eq_true rfl, Nat.le_of_ble_eq_true rfl⟩ ⟨Nat.le_of_ble_eq_true rfl, Nat.le_of_ble_eq_true rfl⟩ rfl (Nat.le_of_ble_eq_true rfl) dX8_push_2 (fun v_ fn1 H locs hp_ hH hS => ?_)
  obtain ⟨rfl, efn1⟩ := hp_
  rcases bTF (inB v0 (nI ng)) with hb1 | hb1
  · rw [hb1] at efn1
    refine W.eq (g2 := F0 m 5 ls [.int 0]) (by rw [hb1]; rfl) ?_
    have hm1_ : fn1 m0 = some (eM r 0 (nI np) (nI ng) (nI nt) (nI kp) (nI rr) ck lim dz gd hih mih fh msh msm mso sp rf) := by rw [efn1]; exact hm_us
    have h2 : fn1 ((r 0)) = some (eI Γ 4 mon) := by rw [efn1]; exact (hm_un (hm_ne h0 hm0 (fun q => by cases q))).trans h0
    have h3 : fn1 ((r 1)) = some (eJ Γ 8 (fun i => b4 (gs i).2.1)) := by rw [efn1]; exact (hm_un (hm_ne hg1 hm0 (fun q => by cases q))).trans hg1
    have h4 : fn1 ((r 2)) = some (eI Γ 8 (fun i => nI (gs i).2.2.1)) := by rw [efn1]; exact (hm_un (hm_ne hg2 hm0 (fun q => by cases q))).trans hg2
    have h5 : fn1 ((r 3)) = some (eI Γ 8 (fun i => nI (gs i).1)) := by rw [efn1]; exact (hm_un (hm_ne hg3 hm0 (fun q => by cases q))).trans hg3
    have h6 : fn1 ((r 4)) = some (eI Γ 8 (fun i => (gs i).2.2.2.1)) := by rw [efn1]; exact (hm_un (hm_ne hg4 hm0 (fun q => by cases q))).trans hg4
    have h7 : fn1 ((r 5)) = some (eI Γ 8 (fun i => (gs i).2.2.2.2.1)) := by rw [efn1]; exact (hm_un (hm_ne hg5 hm0 (fun q => by cases q))).trans hg5
    have h8 : fn1 ((r 6)) = some (eI Γ 8 (fun i => (gs i).2.2.2.2.2.1)) := by rw [efn1]; exact (hm_un (hm_ne hg6 hm0 (fun q => by cases q))).trans hg6
    have h9 : fn1 ((r 7)) = some (eI Γ 8 (fun i => (gs i).2.2.2.2.2.2.1)) := by rw [efn1]; exact (hm_un (hm_ne hg7 hm0 (fun q => by cases q))).trans hg7
    have h10 : fn1 ((r 8)) = some (eI Γ 8 (fun i => (gs i).2.2.2.2.2.2.2.1)) := by rw [efn1]; exact (hm_un (hm_ne hg8 hm0 (fun q => by cases q))).trans hg8
    have h11 : fn1 ((r 9)) = some (eZ Γ 8 (fun i => bI (gs i).2.2.2.2.2.2.2.2)) := by rw [efn1]; exact (hm_un (hm_ne hg9 hm0 (fun q => by cases q))).trans hg9
    have h12 : fn1 ((r 10)) = some (eJ Γ 60 (fun i => b4 (ts i).2.1)) := by rw [efn1]; exact (hm_un (hm_ne ht10 hm0 (fun q => by cases q))).trans ht10
    have h13 : fn1 ((r 11)) = some (eI Γ 60 (fun i => nI (ts i).2.2.1)) := by rw [efn1]; exact (hm_un (hm_ne ht11 hm0 (fun q => by cases q))).trans ht11
    have h14 : fn1 ((r 12)) = some (eI Γ 60 (fun i => nI (ts i).1)) := by rw [efn1]; exact (hm_un (hm_ne ht12 hm0 (fun q => by cases q))).trans ht12
    have h15 : fn1 ((r 13)) = some (eI Γ 60 (fun i => (ts i).2.2.2)) := by rw [efn1]; exact (hm_un (hm_ne ht13 hm0 (fun q => by cases q))).trans ht13
    have h16 : fn1 ((r 14)) = some (eJ Γ 64 (fun j => (K j).1)) := by rw [efn1]; exact (hm_un (hm_ne hk0 hm0 (fun q => by cases q))).trans hk0
    have h17 : fn1 ((r 15)) = some (eI Γ 64 (fun j => (K j).2.1)) := by rw [efn1]; exact (hm_un (hm_ne hk1 hm0 (fun q => by cases q))).trans hk1
    have h18 : fn1 ((r 16)) = some (eI Γ 64 (fun j => (K j).2.2.1)) := by rw [efn1]; exact (hm_un (hm_ne hk2 hm0 (fun q => by cases q))).trans hk2
    have h19 : fn1 ((r 17)) = some (eI Γ 64 (fun j => (K j).2.2.2.1)) := by rw [efn1]; exact (hm_un (hm_ne hk3 hm0 (fun q => by cases q))).trans hk3
    have h20 : fn1 ((r 18)) = some (eI Γ 64 (fun j => (K j).2.2.2.2.1)) := by rw [efn1]; exact (hm_un (hm_ne hk4 hm0 (fun q => by cases q))).trans hk4
    have h21 : fn1 ((r 19)) = some (eI Γ 64 (fun j => (K j).2.2.2.2.2.1)) := by rw [efn1]; exact (hm_un (hm_ne hk5 hm0 (fun q => by cases q))).trans hk5
    have h22 : fn1 ((r 20)) = some (eI Γ 64 (fun j => (K j).2.2.2.2.2.2)) := by rw [efn1]; exact (hm_un (hm_ne hk6 hm0 (fun q => by cases q))).trans hk6
    have h23 : fn1 ((r 21)) = some (eJ Γ 6 pb) := by rw [efn1]; exact (hm_un (hm_ne hp0 hm0 (fun q => by cases q))).trans hp0
    have h24 : fn1 ((r 22)) = some (eI Γ 6 pz) := by rw [efn1]; exact (hm_un (hm_ne hp1 hm0 (fun q => by cases q))).trans hp1
    have h25 : fn1 ((r 23)) = some (eI Γ 6 pd) := by rw [efn1]; exact (hm_un (hm_ne hp2 hm0 (fun q => by cases q))).trans hp2
    have h26 : fn1 ((r 24)) = some (eI Γ 6 pn) := by rw [efn1]; exact (hm_un (hm_ne hp3 hm0 (fun q => by cases q))).trans hp3
    have h27 : fn1 ((r 25)) = some (eI Γ 6 pe) := by rw [efn1]; exact (hm_un (hm_ne hp4 hm0 (fun q => by cases q))).trans hp4
    have h28 : fn1 ((r 26)) = some (eI Γ 6 ph) := by rw [efn1]; exact (hm_un (hm_ne hp5 hm0 (fun q => by cases q))).trans hp5
    have h29 : fn1 ((r 27)) = some (eI Γ 6 pg) := by rw [efn1]; exact (hm_un (hm_ne hp6 hm0 (fun q => by cases q))).trans hp6
    obtain ⟨i, hi, rfl⟩ := (inB_iff (by omega)).mp hb1
    obtain ⟨hgo, hgw, hgz⟩ := hgs i hi
    have hi8 : i < 8 := by omega
    have hix : ix (nI i) = i := ix_nI (by omega)
    have ht15 : tl 15 (gs i).2.1 := tl_mono (tl12 (by omega)) (by decide)
    refine lv_if_ne (tgt := 66) hx hb dX8_push_5 (by decide) (fun c58 => absurd (by decide) c58) (fun _ => ?_)
    refine lv_aload_n hx hb dX8_push_8 rfl (lv_at hl 0 rfl) ?_
    refine lv_iload_n hx hb dX8_push_9 rfl (lv_at hl 2 rfl) ?_
    refine lv_if_lt (tgt := 22) hx hb dX8_push_10 (by decide) (fun c59 => ?_) (fun c59 => ?_)
    · refine lv_iconst (v := 0) hx hb dX8_push_22 (by decide) ?_
      refine lv_iconst (v := 2) hx hb dX8_push_23 (by decide) ?_
      have hb60 : (inB v1 4) = false := (by unfold inB; rw [decide_eq_true c59]; rfl)
      refine W.eq (g2 := F0 m 24 ls [.int 2, .int (bI (inB v1 4)), .ref m0]) (by rw [hb60]; rfl) ?_
      refine hm_callV (rest := []) (k := 1) q5_119 q5_121 q1_9 q5_122 q0_17 rfl nm_X8_no rfl hx hb hml hown hts hK hO hS hH hl.1 hm1_ (c_X8_no Γ l m0 r 0 (nI np) (nI ng) (nI nt) (nI kp) (nI rr) ck lim dz gd hih mih fh msh msm mso sp rf (inB v1 4) 2 fn1 hm1_) ⟨Nat.le_of_ble_eq_true rfl, Nat.le_of_ble_eq_true rfl⟩ ⟨Nat.le_of_ble_eq_true rfl, Nat.le_of_ble_eq_true rfl⟩ rfl (Nat.le_of_ble_eq_true rfl) dX8_push_24 (fun v_ fn61 H locs hp_ hH hS => ?_)
      obtain ⟨rfl, efn61⟩ := hp_
      rw [hb60] at efn61
      refine W.eq (g2 := F0 m 27 ls [.int 1]) (by rw [hb60]; rfl) ?_
      have hm62 : fn61 m0 = some (eM r 2 (nI np) (nI ng) (nI nt) (nI kp) (nI rr) ck lim dz gd hih mih fh msh msm mso sp rf) := by rw [efn61]; exact hm_us
      have h63 : fn61 ((r 0)) = some (eI Γ 4 mon) := by rw [efn61]; exact (hm_un (hm_ne h2 hm1_ (fun q => by cases q))).trans h2
      have h64 : fn61 ((r 1)) = some (eJ Γ 8 (fun i => b4 (gs i).2.1)) := by rw [efn61]; exact (hm_un (hm_ne h3 hm1_ (fun q => by cases q))).trans h3
      have h65 : fn61 ((r 2)) = some (eI Γ 8 (fun i => nI (gs i).2.2.1)) := by rw [efn61]; exact (hm_un (hm_ne h4 hm1_ (fun q => by cases q))).trans h4
      have h66 : fn61 ((r 3)) = some (eI Γ 8 (fun i => nI (gs i).1)) := by rw [efn61]; exact (hm_un (hm_ne h5 hm1_ (fun q => by cases q))).trans h5
      have h67 : fn61 ((r 4)) = some (eI Γ 8 (fun i => (gs i).2.2.2.1)) := by rw [efn61]; exact (hm_un (hm_ne h6 hm1_ (fun q => by cases q))).trans h6
      have h68 : fn61 ((r 5)) = some (eI Γ 8 (fun i => (gs i).2.2.2.2.1)) := by rw [efn61]; exact (hm_un (hm_ne h7 hm1_ (fun q => by cases q))).trans h7
      have h69 : fn61 ((r 6)) = some (eI Γ 8 (fun i => (gs i).2.2.2.2.2.1)) := by rw [efn61]; exact (hm_un (hm_ne h8 hm1_ (fun q => by cases q))).trans h8
      have h70 : fn61 ((r 7)) = some (eI Γ 8 (fun i => (gs i).2.2.2.2.2.2.1)) := by rw [efn61]; exact (hm_un (hm_ne h9 hm1_ (fun q => by cases q))).trans h9
      have h71 : fn61 ((r 8)) = some (eI Γ 8 (fun i => (gs i).2.2.2.2.2.2.2.1)) := by rw [efn61]; exact (hm_un (hm_ne h10 hm1_ (fun q => by cases q))).trans h10
      have h72 : fn61 ((r 9)) = some (eZ Γ 8 (fun i => bI (gs i).2.2.2.2.2.2.2.2)) := by rw [efn61]; exact (hm_un (hm_ne h11 hm1_ (fun q => by cases q))).trans h11
      have h73 : fn61 ((r 10)) = some (eJ Γ 60 (fun i => b4 (ts i).2.1)) := by rw [efn61]; exact (hm_un (hm_ne h12 hm1_ (fun q => by cases q))).trans h12
      have h74 : fn61 ((r 11)) = some (eI Γ 60 (fun i => nI (ts i).2.2.1)) := by rw [efn61]; exact (hm_un (hm_ne h13 hm1_ (fun q => by cases q))).trans h13
      have h75 : fn61 ((r 12)) = some (eI Γ 60 (fun i => nI (ts i).1)) := by rw [efn61]; exact (hm_un (hm_ne h14 hm1_ (fun q => by cases q))).trans h14
      have h76 : fn61 ((r 13)) = some (eI Γ 60 (fun i => (ts i).2.2.2)) := by rw [efn61]; exact (hm_un (hm_ne h15 hm1_ (fun q => by cases q))).trans h15
      have h77 : fn61 ((r 14)) = some (eJ Γ 64 (fun j => (K j).1)) := by rw [efn61]; exact (hm_un (hm_ne h16 hm1_ (fun q => by cases q))).trans h16
      have h78 : fn61 ((r 15)) = some (eI Γ 64 (fun j => (K j).2.1)) := by rw [efn61]; exact (hm_un (hm_ne h17 hm1_ (fun q => by cases q))).trans h17
      have h79 : fn61 ((r 16)) = some (eI Γ 64 (fun j => (K j).2.2.1)) := by rw [efn61]; exact (hm_un (hm_ne h18 hm1_ (fun q => by cases q))).trans h18
      have h80 : fn61 ((r 17)) = some (eI Γ 64 (fun j => (K j).2.2.2.1)) := by rw [efn61]; exact (hm_un (hm_ne h19 hm1_ (fun q => by cases q))).trans h19
      have h81 : fn61 ((r 18)) = some (eI Γ 64 (fun j => (K j).2.2.2.2.1)) := by rw [efn61]; exact (hm_un (hm_ne h20 hm1_ (fun q => by cases q))).trans h20
      have h82 : fn61 ((r 19)) = some (eI Γ 64 (fun j => (K j).2.2.2.2.2.1)) := by rw [efn61]; exact (hm_un (hm_ne h21 hm1_ (fun q => by cases q))).trans h21
      have h83 : fn61 ((r 20)) = some (eI Γ 64 (fun j => (K j).2.2.2.2.2.2)) := by rw [efn61]; exact (hm_un (hm_ne h22 hm1_ (fun q => by cases q))).trans h22
      have h84 : fn61 ((r 21)) = some (eJ Γ 6 pb) := by rw [efn61]; exact (hm_un (hm_ne h23 hm1_ (fun q => by cases q))).trans h23
      have h85 : fn61 ((r 22)) = some (eI Γ 6 pz) := by rw [efn61]; exact (hm_un (hm_ne h24 hm1_ (fun q => by cases q))).trans h24
      have h86 : fn61 ((r 23)) = some (eI Γ 6 pd) := by rw [efn61]; exact (hm_un (hm_ne h25 hm1_ (fun q => by cases q))).trans h25
      have h87 : fn61 ((r 24)) = some (eI Γ 6 pn) := by rw [efn61]; exact (hm_un (hm_ne h26 hm1_ (fun q => by cases q))).trans h26
      have h88 : fn61 ((r 25)) = some (eI Γ 6 pe) := by rw [efn61]; exact (hm_un (hm_ne h27 hm1_ (fun q => by cases q))).trans h27
      have h89 : fn61 ((r 26)) = some (eI Γ 6 ph) := by rw [efn61]; exact (hm_un (hm_ne h28 hm1_ (fun q => by cases q))).trans h28
      have h90 : fn61 ((r 27)) = some (eI Γ 6 pg) := by rw [efn61]; exact (hm_un (hm_ne h29 hm1_ (fun q => by cases q))).trans h29
      refine lv_if_ne (tgt := 66) hx hb dX8_push_27 (by decide) (fun _ => ?_) (fun c91 => absurd c91 (by decide))
      refine lv_iconst (v := 0) hx hb dX8_push_66 (by decide) ?_
      have hfr9 : hm_fr (mS m0 r) f fn61 := by
        rw [efn61, efn1]
        exact ((hm_fr.rf (S := mS m0 r)).up mS_0).up mS_0
      exact hm_iret hx hb hr hlocks hS hH (⟨Or.inr ⟨by rw [hb1]; (try rw [hix]); rw [hb60]; exact (show (2 : Int32) ≠ 0 by decide), ⟨_, rfl⟩, by rw [hb1]; (try rw [hix]); rw [hb60]; exact MW.mk hm62 ⟨⟨h77, h78, h79, h80, h81, h82, h83⟩, ⟨_, _, _, _, _, _, _, h84, h85, h86, h87, h88, h89, h90⟩, h63, ⟨h64, h65, h66, h67, h68, h69, h70, h71, h72⟩, h73, h74, h75, h76⟩⟩, hfr9.k⟩) (Nat.le_of_ble_eq_true rfl) (Nat.le_of_ble_eq_true rfl) dX8_push_67
    · refine lv_iload_n hx hb dX8_push_13 rfl (lv_at hl 2 rfl) ?_
      refine lv_iconst (v := 4) hx hb dX8_push_14 (by decide) ?_
      refine lv_icmp_ge (tgt := 22) hx hb dX8_push_15 (by decide) (fun c92 => ?_) (fun c92 => ?_)
      · refine lv_iconst (v := 0) hx hb dX8_push_22 (by decide) ?_
        refine lv_iconst (v := 2) hx hb dX8_push_23 (by decide) ?_
        have hb93 : (inB v1 4) = false := (by unfold inB; rw [decide_eq_false (Int32.not_lt.mpr c92), Bool.and_false])
        refine W.eq (g2 := F0 m 24 ls [.int 2, .int (bI (inB v1 4)), .ref m0]) (by rw [hb93]; rfl) ?_
        refine hm_callV (rest := []) (k := 1) q5_119 q5_121 q1_9 q5_122 q0_17 rfl nm_X8_no rfl hx hb hml hown hts hK hO hS hH hl.1 hm1_ (c_X8_no Γ l m0 r 0 (nI np) (nI ng) (nI nt) (nI kp) (nI rr) ck lim dz gd hih mih fh msh msm mso sp rf (inB v1 4) 2 fn1 hm1_) ⟨Nat.le_of_ble_eq_true rfl, Nat.le_of_ble_eq_true rfl⟩ ⟨Nat.le_of_ble_eq_true rfl, Nat.le_of_ble_eq_true rfl⟩ rfl (Nat.le_of_ble_eq_true rfl) dX8_push_24 (fun v_ fn94 H locs hp_ hH hS => ?_)
        obtain ⟨rfl, efn94⟩ := hp_
        rw [hb93] at efn94
        refine W.eq (g2 := F0 m 27 ls [.int 1]) (by rw [hb93]; rfl) ?_
        have hm95 : fn94 m0 = some (eM r 2 (nI np) (nI ng) (nI nt) (nI kp) (nI rr) ck lim dz gd hih mih fh msh msm mso sp rf) := by rw [efn94]; exact hm_us
        have h96 : fn94 ((r 0)) = some (eI Γ 4 mon) := by rw [efn94]; exact (hm_un (hm_ne h2 hm1_ (fun q => by cases q))).trans h2
        have h97 : fn94 ((r 1)) = some (eJ Γ 8 (fun i => b4 (gs i).2.1)) := by rw [efn94]; exact (hm_un (hm_ne h3 hm1_ (fun q => by cases q))).trans h3
        have h98 : fn94 ((r 2)) = some (eI Γ 8 (fun i => nI (gs i).2.2.1)) := by rw [efn94]; exact (hm_un (hm_ne h4 hm1_ (fun q => by cases q))).trans h4
        have h99 : fn94 ((r 3)) = some (eI Γ 8 (fun i => nI (gs i).1)) := by rw [efn94]; exact (hm_un (hm_ne h5 hm1_ (fun q => by cases q))).trans h5
        have h100 : fn94 ((r 4)) = some (eI Γ 8 (fun i => (gs i).2.2.2.1)) := by rw [efn94]; exact (hm_un (hm_ne h6 hm1_ (fun q => by cases q))).trans h6
        have h101 : fn94 ((r 5)) = some (eI Γ 8 (fun i => (gs i).2.2.2.2.1)) := by rw [efn94]; exact (hm_un (hm_ne h7 hm1_ (fun q => by cases q))).trans h7
        have h102 : fn94 ((r 6)) = some (eI Γ 8 (fun i => (gs i).2.2.2.2.2.1)) := by rw [efn94]; exact (hm_un (hm_ne h8 hm1_ (fun q => by cases q))).trans h8
        have h103 : fn94 ((r 7)) = some (eI Γ 8 (fun i => (gs i).2.2.2.2.2.2.1)) := by rw [efn94]; exact (hm_un (hm_ne h9 hm1_ (fun q => by cases q))).trans h9
        have h104 : fn94 ((r 8)) = some (eI Γ 8 (fun i => (gs i).2.2.2.2.2.2.2.1)) := by rw [efn94]; exact (hm_un (hm_ne h10 hm1_ (fun q => by cases q))).trans h10
        have h105 : fn94 ((r 9)) = some (eZ Γ 8 (fun i => bI (gs i).2.2.2.2.2.2.2.2)) := by rw [efn94]; exact (hm_un (hm_ne h11 hm1_ (fun q => by cases q))).trans h11
        have h106 : fn94 ((r 10)) = some (eJ Γ 60 (fun i => b4 (ts i).2.1)) := by rw [efn94]; exact (hm_un (hm_ne h12 hm1_ (fun q => by cases q))).trans h12
        have h107 : fn94 ((r 11)) = some (eI Γ 60 (fun i => nI (ts i).2.2.1)) := by rw [efn94]; exact (hm_un (hm_ne h13 hm1_ (fun q => by cases q))).trans h13
        have h108 : fn94 ((r 12)) = some (eI Γ 60 (fun i => nI (ts i).1)) := by rw [efn94]; exact (hm_un (hm_ne h14 hm1_ (fun q => by cases q))).trans h14
        have h109 : fn94 ((r 13)) = some (eI Γ 60 (fun i => (ts i).2.2.2)) := by rw [efn94]; exact (hm_un (hm_ne h15 hm1_ (fun q => by cases q))).trans h15
        have h110 : fn94 ((r 14)) = some (eJ Γ 64 (fun j => (K j).1)) := by rw [efn94]; exact (hm_un (hm_ne h16 hm1_ (fun q => by cases q))).trans h16
        have h111 : fn94 ((r 15)) = some (eI Γ 64 (fun j => (K j).2.1)) := by rw [efn94]; exact (hm_un (hm_ne h17 hm1_ (fun q => by cases q))).trans h17
        have h112 : fn94 ((r 16)) = some (eI Γ 64 (fun j => (K j).2.2.1)) := by rw [efn94]; exact (hm_un (hm_ne h18 hm1_ (fun q => by cases q))).trans h18
        have h113 : fn94 ((r 17)) = some (eI Γ 64 (fun j => (K j).2.2.2.1)) := by rw [efn94]; exact (hm_un (hm_ne h19 hm1_ (fun q => by cases q))).trans h19
        have h114 : fn94 ((r 18)) = some (eI Γ 64 (fun j => (K j).2.2.2.2.1)) := by rw [efn94]; exact (hm_un (hm_ne h20 hm1_ (fun q => by cases q))).trans h20
        have h115 : fn94 ((r 19)) = some (eI Γ 64 (fun j => (K j).2.2.2.2.2.1)) := by rw [efn94]; exact (hm_un (hm_ne h21 hm1_ (fun q => by cases q))).trans h21
        have h116 : fn94 ((r 20)) = some (eI Γ 64 (fun j => (K j).2.2.2.2.2.2)) := by rw [efn94]; exact (hm_un (hm_ne h22 hm1_ (fun q => by cases q))).trans h22
        have h117 : fn94 ((r 21)) = some (eJ Γ 6 pb) := by rw [efn94]; exact (hm_un (hm_ne h23 hm1_ (fun q => by cases q))).trans h23
        have h118 : fn94 ((r 22)) = some (eI Γ 6 pz) := by rw [efn94]; exact (hm_un (hm_ne h24 hm1_ (fun q => by cases q))).trans h24
        have h119 : fn94 ((r 23)) = some (eI Γ 6 pd) := by rw [efn94]; exact (hm_un (hm_ne h25 hm1_ (fun q => by cases q))).trans h25
        have h120 : fn94 ((r 24)) = some (eI Γ 6 pn) := by rw [efn94]; exact (hm_un (hm_ne h26 hm1_ (fun q => by cases q))).trans h26
        have h121 : fn94 ((r 25)) = some (eI Γ 6 pe) := by rw [efn94]; exact (hm_un (hm_ne h27 hm1_ (fun q => by cases q))).trans h27
        have h122 : fn94 ((r 26)) = some (eI Γ 6 ph) := by rw [efn94]; exact (hm_un (hm_ne h28 hm1_ (fun q => by cases q))).trans h28
        have h123 : fn94 ((r 27)) = some (eI Γ 6 pg) := by rw [efn94]; exact (hm_un (hm_ne h29 hm1_ (fun q => by cases q))).trans h29
        refine lv_if_ne (tgt := 66) hx hb dX8_push_27 (by decide) (fun _ => ?_) (fun c124 => absurd c124 (by decide))
        refine lv_iconst (v := 0) hx hb dX8_push_66 (by decide) ?_
        have hfr9 : hm_fr (mS m0 r) f fn94 := by
          rw [efn94, efn1]
          exact ((hm_fr.rf (S := mS m0 r)).up mS_0).up mS_0
        exact hm_iret hx hb hr hlocks hS hH (⟨Or.inr ⟨by rw [hb1]; (try rw [hix]); rw [hb93]; exact (show (2 : Int32) ≠ 0 by decide), ⟨_, rfl⟩, by rw [hb1]; (try rw [hix]); rw [hb93]; exact MW.mk hm95 ⟨⟨h110, h111, h112, h113, h114, h115, h116⟩, ⟨_, _, _, _, _, _, _, h117, h118, h119, h120, h121, h122, h123⟩, h96, ⟨h97, h98, h99, h100, h101, h102, h103, h104, h105⟩, h106, h107, h108, h109⟩⟩, hfr9.k⟩) (Nat.le_of_ble_eq_true rfl) (Nat.le_of_ble_eq_true rfl) dX8_push_67
      · refine lv_iconst (v := 1) hx hb dX8_push_18 (by decide) ?_
        refine lv_goto (tgt := 23) hx hb dX8_push_19 (by decide) ?_
        refine lv_iconst (v := 2) hx hb dX8_push_23 (by decide) ?_
        have hb125 : (inB v1 4) = true := (by unfold inB; rw [decide_eq_false c59, decide_eq_true (Int32.not_le.mp c92)]; rfl)
        refine W.eq (g2 := F0 m 24 ls [.int 2, .int (bI (inB v1 4)), .ref m0]) (by rw [hb125]; rfl) ?_
        refine hm_callV (rest := []) (k := 1) q5_119 q5_121 q1_9 q5_122 q0_17 rfl nm_X8_no rfl hx hb hml hown hts hK hO hS hH hl.1 hm1_ (c_X8_no Γ l m0 r 0 (nI np) (nI ng) (nI nt) (nI kp) (nI rr) ck lim dz gd hih mih fh msh msm mso sp rf (inB v1 4) 2 fn1 hm1_) ⟨Nat.le_of_ble_eq_true rfl, Nat.le_of_ble_eq_true rfl⟩ ⟨Nat.le_of_ble_eq_true rfl, Nat.le_of_ble_eq_true rfl⟩ rfl (Nat.le_of_ble_eq_true rfl) dX8_push_24 (fun v_ fn126 H locs hp_ hH hS => ?_)
        obtain ⟨rfl, efn126⟩ := hp_
        rw [hb125] at efn126
        refine W.eq (g2 := F0 m 27 ls [.int 0]) (by rw [hb125]; rfl) ?_
        have hm127 : fn126 m0 = some (eM r 0 (nI np) (nI ng) (nI nt) (nI kp) (nI rr) ck lim dz gd hih mih fh msh msm mso sp rf) := by rw [efn126]; exact hm_us
        have h128 : fn126 ((r 0)) = some (eI Γ 4 mon) := by rw [efn126]; exact (hm_un (hm_ne h2 hm1_ (fun q => by cases q))).trans h2
        have h129 : fn126 ((r 1)) = some (eJ Γ 8 (fun i => b4 (gs i).2.1)) := by rw [efn126]; exact (hm_un (hm_ne h3 hm1_ (fun q => by cases q))).trans h3
        have h130 : fn126 ((r 2)) = some (eI Γ 8 (fun i => nI (gs i).2.2.1)) := by rw [efn126]; exact (hm_un (hm_ne h4 hm1_ (fun q => by cases q))).trans h4
        have h131 : fn126 ((r 3)) = some (eI Γ 8 (fun i => nI (gs i).1)) := by rw [efn126]; exact (hm_un (hm_ne h5 hm1_ (fun q => by cases q))).trans h5
        have h132 : fn126 ((r 4)) = some (eI Γ 8 (fun i => (gs i).2.2.2.1)) := by rw [efn126]; exact (hm_un (hm_ne h6 hm1_ (fun q => by cases q))).trans h6
        have h133 : fn126 ((r 5)) = some (eI Γ 8 (fun i => (gs i).2.2.2.2.1)) := by rw [efn126]; exact (hm_un (hm_ne h7 hm1_ (fun q => by cases q))).trans h7
        have h134 : fn126 ((r 6)) = some (eI Γ 8 (fun i => (gs i).2.2.2.2.2.1)) := by rw [efn126]; exact (hm_un (hm_ne h8 hm1_ (fun q => by cases q))).trans h8
        have h135 : fn126 ((r 7)) = some (eI Γ 8 (fun i => (gs i).2.2.2.2.2.2.1)) := by rw [efn126]; exact (hm_un (hm_ne h9 hm1_ (fun q => by cases q))).trans h9
        have h136 : fn126 ((r 8)) = some (eI Γ 8 (fun i => (gs i).2.2.2.2.2.2.2.1)) := by rw [efn126]; exact (hm_un (hm_ne h10 hm1_ (fun q => by cases q))).trans h10
        have h137 : fn126 ((r 9)) = some (eZ Γ 8 (fun i => bI (gs i).2.2.2.2.2.2.2.2)) := by rw [efn126]; exact (hm_un (hm_ne h11 hm1_ (fun q => by cases q))).trans h11
        have h138 : fn126 ((r 10)) = some (eJ Γ 60 (fun i => b4 (ts i).2.1)) := by rw [efn126]; exact (hm_un (hm_ne h12 hm1_ (fun q => by cases q))).trans h12
        have h139 : fn126 ((r 11)) = some (eI Γ 60 (fun i => nI (ts i).2.2.1)) := by rw [efn126]; exact (hm_un (hm_ne h13 hm1_ (fun q => by cases q))).trans h13
        have h140 : fn126 ((r 12)) = some (eI Γ 60 (fun i => nI (ts i).1)) := by rw [efn126]; exact (hm_un (hm_ne h14 hm1_ (fun q => by cases q))).trans h14
        have h141 : fn126 ((r 13)) = some (eI Γ 60 (fun i => (ts i).2.2.2)) := by rw [efn126]; exact (hm_un (hm_ne h15 hm1_ (fun q => by cases q))).trans h15
        have h142 : fn126 ((r 14)) = some (eJ Γ 64 (fun j => (K j).1)) := by rw [efn126]; exact (hm_un (hm_ne h16 hm1_ (fun q => by cases q))).trans h16
        have h143 : fn126 ((r 15)) = some (eI Γ 64 (fun j => (K j).2.1)) := by rw [efn126]; exact (hm_un (hm_ne h17 hm1_ (fun q => by cases q))).trans h17
        have h144 : fn126 ((r 16)) = some (eI Γ 64 (fun j => (K j).2.2.1)) := by rw [efn126]; exact (hm_un (hm_ne h18 hm1_ (fun q => by cases q))).trans h18
        have h145 : fn126 ((r 17)) = some (eI Γ 64 (fun j => (K j).2.2.2.1)) := by rw [efn126]; exact (hm_un (hm_ne h19 hm1_ (fun q => by cases q))).trans h19
        have h146 : fn126 ((r 18)) = some (eI Γ 64 (fun j => (K j).2.2.2.2.1)) := by rw [efn126]; exact (hm_un (hm_ne h20 hm1_ (fun q => by cases q))).trans h20
        have h147 : fn126 ((r 19)) = some (eI Γ 64 (fun j => (K j).2.2.2.2.2.1)) := by rw [efn126]; exact (hm_un (hm_ne h21 hm1_ (fun q => by cases q))).trans h21
        have h148 : fn126 ((r 20)) = some (eI Γ 64 (fun j => (K j).2.2.2.2.2.2)) := by rw [efn126]; exact (hm_un (hm_ne h22 hm1_ (fun q => by cases q))).trans h22
        have h149 : fn126 ((r 21)) = some (eJ Γ 6 pb) := by rw [efn126]; exact (hm_un (hm_ne h23 hm1_ (fun q => by cases q))).trans h23
        have h150 : fn126 ((r 22)) = some (eI Γ 6 pz) := by rw [efn126]; exact (hm_un (hm_ne h24 hm1_ (fun q => by cases q))).trans h24
        have h151 : fn126 ((r 23)) = some (eI Γ 6 pd) := by rw [efn126]; exact (hm_un (hm_ne h25 hm1_ (fun q => by cases q))).trans h25
        have h152 : fn126 ((r 24)) = some (eI Γ 6 pn) := by rw [efn126]; exact (hm_un (hm_ne h26 hm1_ (fun q => by cases q))).trans h26
        have h153 : fn126 ((r 25)) = some (eI Γ 6 pe) := by rw [efn126]; exact (hm_un (hm_ne h27 hm1_ (fun q => by cases q))).trans h27
        have h154 : fn126 ((r 26)) = some (eI Γ 6 ph) := by rw [efn126]; exact (hm_un (hm_ne h28 hm1_ (fun q => by cases q))).trans h28
        have h155 : fn126 ((r 27)) = some (eI Γ 6 pg) := by rw [efn126]; exact (hm_un (hm_ne h29 hm1_ (fun q => by cases q))).trans h29
        refine lv_if_ne (tgt := 66) hx hb dX8_push_27 (by decide) (fun c156 => absurd (by decide) c156) (fun _ => ?_)
        obtain ⟨to, hto, rfl⟩ := rng_in (n := 4) c59 (Int32.not_le.mp c92) (by decide)
        have hit : ix (nI to) = to := ix_nI (by omega)
        refine lv_aload_n hx hb dX8_push_30 rfl (lv_at hl 0 rfl) ?_
        refine lv_aload_n hx hb dX8_push_31 rfl (lv_at hl 0 rfl) ?_
        refine gf_X8_38 hx hb hts hown hK hH hm127 rfl dX8_push_32 ?_
        refine lv_iload_n hx hb dX8_push_35 rfl (lv_at hl 1 rfl) ?_
        refine hm_zald hx hb hK hH h137 (vp_in_nI hi8 (by decide)) dX8_push_36 ?_
        refine lv_topi (fun v157 ev157 => ?_)
        replace ev157 : v157 = bI (gs i).2.2.2.2.2.2.2.2 := ev157.trans (by show bI (gs (nI i).toNatClampNeg).2.2.2.2.2.2.2.2 = _; rw [nI_clamp (n := i) (by omega)])
        subst ev157
        refine lv_if_ne (tgt := 58) hx hb dX8_push_37 (by decide) (fun c158 => ?_) (fun c158 => ?_)
        · refine lv_iconst (v := 0) hx hb dX8_push_58 (by decide) ?_
          refine lv_iconst (v := 3) hx hb dX8_push_59 (by decide) ?_
          have hb159 : (!(gs i).2.2.2.2.2.2.2.2 && goN (gs i).2.1 to) = false := (by rw [bI_n.mp c158]; rfl)
          refine W.eq (g2 := F0 m 60 ls [.int 3, .int (bI (!(gs i).2.2.2.2.2.2.2.2 && goN (gs i).2.1 to)), .ref m0]) (by rw [hb159]; rfl) ?_
          refine hm_callV (rest := []) (k := 1) q5_119 q5_121 q1_9 q5_122 q0_17 rfl nm_X8_no rfl hx hb hml hown hts hK hO hS hH hl.1 hm127 (c_X8_no Γ l m0 r 0 (nI np) (nI ng) (nI nt) (nI kp) (nI rr) ck lim dz gd hih mih fh msh msm mso sp rf (!(gs i).2.2.2.2.2.2.2.2 && goN (gs i).2.1 to) 3 fn126 hm127) ⟨Nat.le_of_ble_eq_true rfl, Nat.le_of_ble_eq_true rfl⟩ ⟨Nat.le_of_ble_eq_true rfl, Nat.le_of_ble_eq_true rfl⟩ rfl (Nat.le_of_ble_eq_true rfl) dX8_push_60 (fun v_ fn160 H locs hp_ hH hS => ?_)
          obtain ⟨rfl, efn160⟩ := hp_
          rw [hb159] at efn160
          refine W.eq (g2 := F0 m 63 ls [.int 1]) (by rw [hb159]; rfl) ?_
          have hm161 : fn160 m0 = some (eM r 3 (nI np) (nI ng) (nI nt) (nI kp) (nI rr) ck lim dz gd hih mih fh msh msm mso sp rf) := by rw [efn160]; exact hm_us
          have h162 : fn160 ((r 0)) = some (eI Γ 4 mon) := by rw [efn160]; exact (hm_un (hm_ne h128 hm127 (fun q => by cases q))).trans h128
          have h163 : fn160 ((r 1)) = some (eJ Γ 8 (fun i => b4 (gs i).2.1)) := by rw [efn160]; exact (hm_un (hm_ne h129 hm127 (fun q => by cases q))).trans h129
          have h164 : fn160 ((r 2)) = some (eI Γ 8 (fun i => nI (gs i).2.2.1)) := by rw [efn160]; exact (hm_un (hm_ne h130 hm127 (fun q => by cases q))).trans h130
          have h165 : fn160 ((r 3)) = some (eI Γ 8 (fun i => nI (gs i).1)) := by rw [efn160]; exact (hm_un (hm_ne h131 hm127 (fun q => by cases q))).trans h131
          have h166 : fn160 ((r 4)) = some (eI Γ 8 (fun i => (gs i).2.2.2.1)) := by rw [efn160]; exact (hm_un (hm_ne h132 hm127 (fun q => by cases q))).trans h132
          have h167 : fn160 ((r 5)) = some (eI Γ 8 (fun i => (gs i).2.2.2.2.1)) := by rw [efn160]; exact (hm_un (hm_ne h133 hm127 (fun q => by cases q))).trans h133
          have h168 : fn160 ((r 6)) = some (eI Γ 8 (fun i => (gs i).2.2.2.2.2.1)) := by rw [efn160]; exact (hm_un (hm_ne h134 hm127 (fun q => by cases q))).trans h134
          have h169 : fn160 ((r 7)) = some (eI Γ 8 (fun i => (gs i).2.2.2.2.2.2.1)) := by rw [efn160]; exact (hm_un (hm_ne h135 hm127 (fun q => by cases q))).trans h135
          have h170 : fn160 ((r 8)) = some (eI Γ 8 (fun i => (gs i).2.2.2.2.2.2.2.1)) := by rw [efn160]; exact (hm_un (hm_ne h136 hm127 (fun q => by cases q))).trans h136
          have h171 : fn160 ((r 9)) = some (eZ Γ 8 (fun i => bI (gs i).2.2.2.2.2.2.2.2)) := by rw [efn160]; exact (hm_un (hm_ne h137 hm127 (fun q => by cases q))).trans h137
          have h172 : fn160 ((r 10)) = some (eJ Γ 60 (fun i => b4 (ts i).2.1)) := by rw [efn160]; exact (hm_un (hm_ne h138 hm127 (fun q => by cases q))).trans h138
          have h173 : fn160 ((r 11)) = some (eI Γ 60 (fun i => nI (ts i).2.2.1)) := by rw [efn160]; exact (hm_un (hm_ne h139 hm127 (fun q => by cases q))).trans h139
          have h174 : fn160 ((r 12)) = some (eI Γ 60 (fun i => nI (ts i).1)) := by rw [efn160]; exact (hm_un (hm_ne h140 hm127 (fun q => by cases q))).trans h140
          have h175 : fn160 ((r 13)) = some (eI Γ 60 (fun i => (ts i).2.2.2)) := by rw [efn160]; exact (hm_un (hm_ne h141 hm127 (fun q => by cases q))).trans h141
          have h176 : fn160 ((r 14)) = some (eJ Γ 64 (fun j => (K j).1)) := by rw [efn160]; exact (hm_un (hm_ne h142 hm127 (fun q => by cases q))).trans h142
          have h177 : fn160 ((r 15)) = some (eI Γ 64 (fun j => (K j).2.1)) := by rw [efn160]; exact (hm_un (hm_ne h143 hm127 (fun q => by cases q))).trans h143
          have h178 : fn160 ((r 16)) = some (eI Γ 64 (fun j => (K j).2.2.1)) := by rw [efn160]; exact (hm_un (hm_ne h144 hm127 (fun q => by cases q))).trans h144
          have h179 : fn160 ((r 17)) = some (eI Γ 64 (fun j => (K j).2.2.2.1)) := by rw [efn160]; exact (hm_un (hm_ne h145 hm127 (fun q => by cases q))).trans h145
          have h180 : fn160 ((r 18)) = some (eI Γ 64 (fun j => (K j).2.2.2.2.1)) := by rw [efn160]; exact (hm_un (hm_ne h146 hm127 (fun q => by cases q))).trans h146
          have h181 : fn160 ((r 19)) = some (eI Γ 64 (fun j => (K j).2.2.2.2.2.1)) := by rw [efn160]; exact (hm_un (hm_ne h147 hm127 (fun q => by cases q))).trans h147
          have h182 : fn160 ((r 20)) = some (eI Γ 64 (fun j => (K j).2.2.2.2.2.2)) := by rw [efn160]; exact (hm_un (hm_ne h148 hm127 (fun q => by cases q))).trans h148
          have h183 : fn160 ((r 21)) = some (eJ Γ 6 pb) := by rw [efn160]; exact (hm_un (hm_ne h149 hm127 (fun q => by cases q))).trans h149
          have h184 : fn160 ((r 22)) = some (eI Γ 6 pz) := by rw [efn160]; exact (hm_un (hm_ne h150 hm127 (fun q => by cases q))).trans h150
          have h185 : fn160 ((r 23)) = some (eI Γ 6 pd) := by rw [efn160]; exact (hm_un (hm_ne h151 hm127 (fun q => by cases q))).trans h151
          have h186 : fn160 ((r 24)) = some (eI Γ 6 pn) := by rw [efn160]; exact (hm_un (hm_ne h152 hm127 (fun q => by cases q))).trans h152
          have h187 : fn160 ((r 25)) = some (eI Γ 6 pe) := by rw [efn160]; exact (hm_un (hm_ne h153 hm127 (fun q => by cases q))).trans h153
          have h188 : fn160 ((r 26)) = some (eI Γ 6 ph) := by rw [efn160]; exact (hm_un (hm_ne h154 hm127 (fun q => by cases q))).trans h154
          have h189 : fn160 ((r 27)) = some (eI Γ 6 pg) := by rw [efn160]; exact (hm_un (hm_ne h155 hm127 (fun q => by cases q))).trans h155
          refine lv_if_eq (tgt := 68) hx hb dX8_push_63 (by decide) (fun c190 => absurd c190 (by decide)) (fun _ => ?_)
          refine lv_iconst (v := 0) hx hb dX8_push_66 (by decide) ?_
          have hfr9 : hm_fr (mS m0 r) f fn160 := by
            rw [efn160, efn126, efn1]
            exact (((hm_fr.rf (S := mS m0 r)).up mS_0).up mS_0).up mS_0
          exact hm_iret hx hb hr hlocks hS hH (⟨Or.inr ⟨by rw [hb1]; (try rw [hix]); rw [hb125]; (try rw [hit]); rw [hb159]; exact (show (3 : Int32) ≠ 0 by decide), ⟨_, rfl⟩, by rw [hb1]; (try rw [hix]); rw [hb125]; (try rw [hit]); rw [hb159]; exact MW.mk hm161 ⟨⟨h176, h177, h178, h179, h180, h181, h182⟩, ⟨_, _, _, _, _, _, _, h183, h184, h185, h186, h187, h188, h189⟩, h162, ⟨h163, h164, h165, h166, h167, h168, h169, h170, h171⟩, h172, h173, h174, h175⟩⟩, hfr9.k⟩) (Nat.le_of_ble_eq_true rfl) (Nat.le_of_ble_eq_true rfl) dX8_push_67
        · refine lv_aload_n hx hb dX8_push_40 rfl (lv_at hl 0 rfl) ?_
          refine lv_aload_n hx hb dX8_push_41 rfl (lv_at hl 0 rfl) ?_
          refine gf_X8_13 hx hb hts hown hK hH hm127 rfl dX8_push_42 ?_
          refine lv_iload_n hx hb dX8_push_45 rfl (lv_at hl 1 rfl) ?_
          refine hm_lald hx hb hK hH h129 (vp_in_nI hi8 (by decide)) dX8_push_46 ?_
          refine lv_topl (fun v191 ev191 => ?_)
          replace ev191 : v191 = b4 (gs i).2.1 := ev191.trans (by show b4 (gs (nI i).toNatClampNeg).2.1 = _; rw [nI_clamp (n := i) (by omega)])
          subst ev191
          refine lv_iload_n hx hb dX8_push_47 rfl (lv_at hl 2 rfl) ?_
          refine hm_callV (rest := [.ref m0]) (k := 3) q5_150 q5_152 q1_9 q5_153 q0_20 rfl nm_X8_can rfl hx hb hml hown hts hK hO hS hH hl.1 hm127 (c_X8_can Γ l m0 r 0 (nI np) (nI ng) (nI nt) (nI kp) (nI rr) ck lim dz gd hih mih fh msh msm mso sp rf (gs i).2.1 to fn126 hm127 ht15 hto) ⟨Nat.le_of_ble_eq_true rfl, Nat.le_of_ble_eq_true rfl⟩ ⟨Nat.le_of_ble_eq_true rfl, Nat.le_of_ble_eq_true rfl⟩ rfl (Nat.le_of_ble_eq_true rfl) dX8_push_48 (fun v_ fn192 H locs hp_ hH hS => ?_)
          obtain ⟨rfl, efn192⟩ := hp_
          refine W.eq (g2 := F0 m 51 ls [.int (bI (goN (gs i).2.1 to)), .ref m0]) rfl ?_
          have hmfn192 : fn192 m0 = some (eM r 0 (nI np) (nI ng) (nI nt) (nI kp) (nI rr) ck lim dz (nI (gainT (gs i).2.1 to)) hih mih fh msh msm mso sp rf) := by rw [efn192]; exact hm_us
          have h193 : fn192 ((r 0)) = some (eI Γ 4 mon) := by rw [efn192]; exact (hm_un (hm_ne h128 hm127 (fun q => by cases q))).trans h128
          have h194 : fn192 ((r 1)) = some (eJ Γ 8 (fun i => b4 (gs i).2.1)) := by rw [efn192]; exact (hm_un (hm_ne h129 hm127 (fun q => by cases q))).trans h129
          have h195 : fn192 ((r 2)) = some (eI Γ 8 (fun i => nI (gs i).2.2.1)) := by rw [efn192]; exact (hm_un (hm_ne h130 hm127 (fun q => by cases q))).trans h130
          have h196 : fn192 ((r 3)) = some (eI Γ 8 (fun i => nI (gs i).1)) := by rw [efn192]; exact (hm_un (hm_ne h131 hm127 (fun q => by cases q))).trans h131
          have h197 : fn192 ((r 4)) = some (eI Γ 8 (fun i => (gs i).2.2.2.1)) := by rw [efn192]; exact (hm_un (hm_ne h132 hm127 (fun q => by cases q))).trans h132
          have h198 : fn192 ((r 5)) = some (eI Γ 8 (fun i => (gs i).2.2.2.2.1)) := by rw [efn192]; exact (hm_un (hm_ne h133 hm127 (fun q => by cases q))).trans h133
          have h199 : fn192 ((r 6)) = some (eI Γ 8 (fun i => (gs i).2.2.2.2.2.1)) := by rw [efn192]; exact (hm_un (hm_ne h134 hm127 (fun q => by cases q))).trans h134
          have h200 : fn192 ((r 7)) = some (eI Γ 8 (fun i => (gs i).2.2.2.2.2.2.1)) := by rw [efn192]; exact (hm_un (hm_ne h135 hm127 (fun q => by cases q))).trans h135
          have h201 : fn192 ((r 8)) = some (eI Γ 8 (fun i => (gs i).2.2.2.2.2.2.2.1)) := by rw [efn192]; exact (hm_un (hm_ne h136 hm127 (fun q => by cases q))).trans h136
          have h202 : fn192 ((r 9)) = some (eZ Γ 8 (fun i => bI (gs i).2.2.2.2.2.2.2.2)) := by rw [efn192]; exact (hm_un (hm_ne h137 hm127 (fun q => by cases q))).trans h137
          have h203 : fn192 ((r 10)) = some (eJ Γ 60 (fun i => b4 (ts i).2.1)) := by rw [efn192]; exact (hm_un (hm_ne h138 hm127 (fun q => by cases q))).trans h138
          have h204 : fn192 ((r 11)) = some (eI Γ 60 (fun i => nI (ts i).2.2.1)) := by rw [efn192]; exact (hm_un (hm_ne h139 hm127 (fun q => by cases q))).trans h139
          have h205 : fn192 ((r 12)) = some (eI Γ 60 (fun i => nI (ts i).1)) := by rw [efn192]; exact (hm_un (hm_ne h140 hm127 (fun q => by cases q))).trans h140
          have h206 : fn192 ((r 13)) = some (eI Γ 60 (fun i => (ts i).2.2.2)) := by rw [efn192]; exact (hm_un (hm_ne h141 hm127 (fun q => by cases q))).trans h141
          have h207 : fn192 ((r 14)) = some (eJ Γ 64 (fun j => (K j).1)) := by rw [efn192]; exact (hm_un (hm_ne h142 hm127 (fun q => by cases q))).trans h142
          have h208 : fn192 ((r 15)) = some (eI Γ 64 (fun j => (K j).2.1)) := by rw [efn192]; exact (hm_un (hm_ne h143 hm127 (fun q => by cases q))).trans h143
          have h209 : fn192 ((r 16)) = some (eI Γ 64 (fun j => (K j).2.2.1)) := by rw [efn192]; exact (hm_un (hm_ne h144 hm127 (fun q => by cases q))).trans h144
          have h210 : fn192 ((r 17)) = some (eI Γ 64 (fun j => (K j).2.2.2.1)) := by rw [efn192]; exact (hm_un (hm_ne h145 hm127 (fun q => by cases q))).trans h145
          have h211 : fn192 ((r 18)) = some (eI Γ 64 (fun j => (K j).2.2.2.2.1)) := by rw [efn192]; exact (hm_un (hm_ne h146 hm127 (fun q => by cases q))).trans h146
          have h212 : fn192 ((r 19)) = some (eI Γ 64 (fun j => (K j).2.2.2.2.2.1)) := by rw [efn192]; exact (hm_un (hm_ne h147 hm127 (fun q => by cases q))).trans h147
          have h213 : fn192 ((r 20)) = some (eI Γ 64 (fun j => (K j).2.2.2.2.2.2)) := by rw [efn192]; exact (hm_un (hm_ne h148 hm127 (fun q => by cases q))).trans h148
          have h214 : fn192 ((r 21)) = some (eJ Γ 6 pb) := by rw [efn192]; exact (hm_un (hm_ne h149 hm127 (fun q => by cases q))).trans h149
          have h215 : fn192 ((r 22)) = some (eI Γ 6 pz) := by rw [efn192]; exact (hm_un (hm_ne h150 hm127 (fun q => by cases q))).trans h150
          have h216 : fn192 ((r 23)) = some (eI Γ 6 pd) := by rw [efn192]; exact (hm_un (hm_ne h151 hm127 (fun q => by cases q))).trans h151
          have h217 : fn192 ((r 24)) = some (eI Γ 6 pn) := by rw [efn192]; exact (hm_un (hm_ne h152 hm127 (fun q => by cases q))).trans h152
          have h218 : fn192 ((r 25)) = some (eI Γ 6 pe) := by rw [efn192]; exact (hm_un (hm_ne h153 hm127 (fun q => by cases q))).trans h153
          have h219 : fn192 ((r 26)) = some (eI Γ 6 ph) := by rw [efn192]; exact (hm_un (hm_ne h154 hm127 (fun q => by cases q))).trans h154
          have h220 : fn192 ((r 27)) = some (eI Γ 6 pg) := by rw [efn192]; exact (hm_un (hm_ne h155 hm127 (fun q => by cases q))).trans h155
          refine lv_if_eq (tgt := 58) hx hb dX8_push_51 (by decide) (fun c221 => ?_) (fun c221 => ?_)
          · refine lv_iconst (v := 0) hx hb dX8_push_58 (by decide) ?_
            refine lv_iconst (v := 3) hx hb dX8_push_59 (by decide) ?_
            have hb222 : (!(gs i).2.2.2.2.2.2.2.2 && goN (gs i).2.1 to) = false := (by rw [bI_0.mp c221, Bool.and_false])
            refine W.eq (g2 := F0 m 60 ls [.int 3, .int (bI (!(gs i).2.2.2.2.2.2.2.2 && goN (gs i).2.1 to)), .ref m0]) (by rw [hb222]; rfl) ?_
            refine hm_callV (rest := []) (k := 1) q5_119 q5_121 q1_9 q5_122 q0_17 rfl nm_X8_no rfl hx hb hml hown hts hK hO hS hH hl.1 hmfn192 (c_X8_no Γ l m0 r 0 (nI np) (nI ng) (nI nt) (nI kp) (nI rr) ck lim dz (nI (gainT (gs i).2.1 to)) hih mih fh msh msm mso sp rf (!(gs i).2.2.2.2.2.2.2.2 && goN (gs i).2.1 to) 3 fn192 hmfn192) ⟨Nat.le_of_ble_eq_true rfl, Nat.le_of_ble_eq_true rfl⟩ ⟨Nat.le_of_ble_eq_true rfl, Nat.le_of_ble_eq_true rfl⟩ rfl (Nat.le_of_ble_eq_true rfl) dX8_push_60 (fun v_ fn223 H locs hp_ hH hS => ?_)
            obtain ⟨rfl, efn223⟩ := hp_
            rw [hb222] at efn223
            refine W.eq (g2 := F0 m 63 ls [.int 1]) (by rw [hb222]; rfl) ?_
            have hm224 : fn223 m0 = some (eM r 3 (nI np) (nI ng) (nI nt) (nI kp) (nI rr) ck lim dz (nI (gainT (gs i).2.1 to)) hih mih fh msh msm mso sp rf) := by rw [efn223]; exact hm_us
            have h225 : fn223 ((r 0)) = some (eI Γ 4 mon) := by rw [efn223]; exact (hm_un (hm_ne h193 hmfn192 (fun q => by cases q))).trans h193
            have h226 : fn223 ((r 1)) = some (eJ Γ 8 (fun i => b4 (gs i).2.1)) := by rw [efn223]; exact (hm_un (hm_ne h194 hmfn192 (fun q => by cases q))).trans h194
            have h227 : fn223 ((r 2)) = some (eI Γ 8 (fun i => nI (gs i).2.2.1)) := by rw [efn223]; exact (hm_un (hm_ne h195 hmfn192 (fun q => by cases q))).trans h195
            have h228 : fn223 ((r 3)) = some (eI Γ 8 (fun i => nI (gs i).1)) := by rw [efn223]; exact (hm_un (hm_ne h196 hmfn192 (fun q => by cases q))).trans h196
            have h229 : fn223 ((r 4)) = some (eI Γ 8 (fun i => (gs i).2.2.2.1)) := by rw [efn223]; exact (hm_un (hm_ne h197 hmfn192 (fun q => by cases q))).trans h197
            have h230 : fn223 ((r 5)) = some (eI Γ 8 (fun i => (gs i).2.2.2.2.1)) := by rw [efn223]; exact (hm_un (hm_ne h198 hmfn192 (fun q => by cases q))).trans h198
            have h231 : fn223 ((r 6)) = some (eI Γ 8 (fun i => (gs i).2.2.2.2.2.1)) := by rw [efn223]; exact (hm_un (hm_ne h199 hmfn192 (fun q => by cases q))).trans h199
            have h232 : fn223 ((r 7)) = some (eI Γ 8 (fun i => (gs i).2.2.2.2.2.2.1)) := by rw [efn223]; exact (hm_un (hm_ne h200 hmfn192 (fun q => by cases q))).trans h200
            have h233 : fn223 ((r 8)) = some (eI Γ 8 (fun i => (gs i).2.2.2.2.2.2.2.1)) := by rw [efn223]; exact (hm_un (hm_ne h201 hmfn192 (fun q => by cases q))).trans h201
            have h234 : fn223 ((r 9)) = some (eZ Γ 8 (fun i => bI (gs i).2.2.2.2.2.2.2.2)) := by rw [efn223]; exact (hm_un (hm_ne h202 hmfn192 (fun q => by cases q))).trans h202
            have h235 : fn223 ((r 10)) = some (eJ Γ 60 (fun i => b4 (ts i).2.1)) := by rw [efn223]; exact (hm_un (hm_ne h203 hmfn192 (fun q => by cases q))).trans h203
            have h236 : fn223 ((r 11)) = some (eI Γ 60 (fun i => nI (ts i).2.2.1)) := by rw [efn223]; exact (hm_un (hm_ne h204 hmfn192 (fun q => by cases q))).trans h204
            have h237 : fn223 ((r 12)) = some (eI Γ 60 (fun i => nI (ts i).1)) := by rw [efn223]; exact (hm_un (hm_ne h205 hmfn192 (fun q => by cases q))).trans h205
            have h238 : fn223 ((r 13)) = some (eI Γ 60 (fun i => (ts i).2.2.2)) := by rw [efn223]; exact (hm_un (hm_ne h206 hmfn192 (fun q => by cases q))).trans h206
            have h239 : fn223 ((r 14)) = some (eJ Γ 64 (fun j => (K j).1)) := by rw [efn223]; exact (hm_un (hm_ne h207 hmfn192 (fun q => by cases q))).trans h207
            have h240 : fn223 ((r 15)) = some (eI Γ 64 (fun j => (K j).2.1)) := by rw [efn223]; exact (hm_un (hm_ne h208 hmfn192 (fun q => by cases q))).trans h208
            have h241 : fn223 ((r 16)) = some (eI Γ 64 (fun j => (K j).2.2.1)) := by rw [efn223]; exact (hm_un (hm_ne h209 hmfn192 (fun q => by cases q))).trans h209
            have h242 : fn223 ((r 17)) = some (eI Γ 64 (fun j => (K j).2.2.2.1)) := by rw [efn223]; exact (hm_un (hm_ne h210 hmfn192 (fun q => by cases q))).trans h210
            have h243 : fn223 ((r 18)) = some (eI Γ 64 (fun j => (K j).2.2.2.2.1)) := by rw [efn223]; exact (hm_un (hm_ne h211 hmfn192 (fun q => by cases q))).trans h211
            have h244 : fn223 ((r 19)) = some (eI Γ 64 (fun j => (K j).2.2.2.2.2.1)) := by rw [efn223]; exact (hm_un (hm_ne h212 hmfn192 (fun q => by cases q))).trans h212
            have h245 : fn223 ((r 20)) = some (eI Γ 64 (fun j => (K j).2.2.2.2.2.2)) := by rw [efn223]; exact (hm_un (hm_ne h213 hmfn192 (fun q => by cases q))).trans h213
            have h246 : fn223 ((r 21)) = some (eJ Γ 6 pb) := by rw [efn223]; exact (hm_un (hm_ne h214 hmfn192 (fun q => by cases q))).trans h214
            have h247 : fn223 ((r 22)) = some (eI Γ 6 pz) := by rw [efn223]; exact (hm_un (hm_ne h215 hmfn192 (fun q => by cases q))).trans h215
            have h248 : fn223 ((r 23)) = some (eI Γ 6 pd) := by rw [efn223]; exact (hm_un (hm_ne h216 hmfn192 (fun q => by cases q))).trans h216
            have h249 : fn223 ((r 24)) = some (eI Γ 6 pn) := by rw [efn223]; exact (hm_un (hm_ne h217 hmfn192 (fun q => by cases q))).trans h217
            have h250 : fn223 ((r 25)) = some (eI Γ 6 pe) := by rw [efn223]; exact (hm_un (hm_ne h218 hmfn192 (fun q => by cases q))).trans h218
            have h251 : fn223 ((r 26)) = some (eI Γ 6 ph) := by rw [efn223]; exact (hm_un (hm_ne h219 hmfn192 (fun q => by cases q))).trans h219
            have h252 : fn223 ((r 27)) = some (eI Γ 6 pg) := by rw [efn223]; exact (hm_un (hm_ne h220 hmfn192 (fun q => by cases q))).trans h220
            refine lv_if_eq (tgt := 68) hx hb dX8_push_63 (by decide) (fun c253 => absurd c253 (by decide)) (fun _ => ?_)
            refine lv_iconst (v := 0) hx hb dX8_push_66 (by decide) ?_
            have hfr9 : hm_fr (mS m0 r) f fn223 := by
              rw [efn223, efn192, efn126, efn1]
              exact ((((hm_fr.rf (S := mS m0 r)).up mS_0).up mS_0).up mS_0).up mS_0
            exact hm_iret hx hb hr hlocks hS hH (⟨Or.inr ⟨by rw [hb1]; (try rw [hix]); rw [hb125]; (try rw [hit]); rw [hb222]; exact (show (3 : Int32) ≠ 0 by decide), ⟨_, rfl⟩, by rw [hb1]; (try rw [hix]); rw [hb125]; (try rw [hit]); rw [hb222]; exact MW.mk hm224 ⟨⟨h239, h240, h241, h242, h243, h244, h245⟩, ⟨_, _, _, _, _, _, _, h246, h247, h248, h249, h250, h251, h252⟩, h225, ⟨h226, h227, h228, h229, h230, h231, h232, h233, h234⟩, h235, h236, h237, h238⟩⟩, hfr9.k⟩) (Nat.le_of_ble_eq_true rfl) (Nat.le_of_ble_eq_true rfl) dX8_push_67
          · refine lv_iconst (v := 1) hx hb dX8_push_54 (by decide) ?_
            refine lv_goto (tgt := 59) hx hb dX8_push_55 (by decide) ?_
            refine lv_iconst (v := 3) hx hb dX8_push_59 (by decide) ?_
            have hb254 : (!(gs i).2.2.2.2.2.2.2.2 && goN (gs i).2.1 to) = true := (by rw [bI_0.mp c158, bI_n.mp c221]; rfl)
            refine W.eq (g2 := F0 m 60 ls [.int 3, .int (bI (!(gs i).2.2.2.2.2.2.2.2 && goN (gs i).2.1 to)), .ref m0]) (by rw [hb254]; rfl) ?_
            refine hm_callV (rest := []) (k := 1) q5_119 q5_121 q1_9 q5_122 q0_17 rfl nm_X8_no rfl hx hb hml hown hts hK hO hS hH hl.1 hmfn192 (c_X8_no Γ l m0 r 0 (nI np) (nI ng) (nI nt) (nI kp) (nI rr) ck lim dz (nI (gainT (gs i).2.1 to)) hih mih fh msh msm mso sp rf (!(gs i).2.2.2.2.2.2.2.2 && goN (gs i).2.1 to) 3 fn192 hmfn192) ⟨Nat.le_of_ble_eq_true rfl, Nat.le_of_ble_eq_true rfl⟩ ⟨Nat.le_of_ble_eq_true rfl, Nat.le_of_ble_eq_true rfl⟩ rfl (Nat.le_of_ble_eq_true rfl) dX8_push_60 (fun v_ fn255 H locs hp_ hH hS => ?_)
            obtain ⟨rfl, efn255⟩ := hp_
            rw [hb254] at efn255
            refine W.eq (g2 := F0 m 63 ls [.int 0]) (by rw [hb254]; rfl) ?_
            have hm256 : fn255 m0 = some (eM r 0 (nI np) (nI ng) (nI nt) (nI kp) (nI rr) ck lim dz (nI (gainT (gs i).2.1 to)) hih mih fh msh msm mso sp rf) := by rw [efn255]; exact hm_us
            have h257 : fn255 ((r 0)) = some (eI Γ 4 mon) := by rw [efn255]; exact (hm_un (hm_ne h193 hmfn192 (fun q => by cases q))).trans h193
            have h258 : fn255 ((r 1)) = some (eJ Γ 8 (fun i => b4 (gs i).2.1)) := by rw [efn255]; exact (hm_un (hm_ne h194 hmfn192 (fun q => by cases q))).trans h194
            have h259 : fn255 ((r 2)) = some (eI Γ 8 (fun i => nI (gs i).2.2.1)) := by rw [efn255]; exact (hm_un (hm_ne h195 hmfn192 (fun q => by cases q))).trans h195
            have h260 : fn255 ((r 3)) = some (eI Γ 8 (fun i => nI (gs i).1)) := by rw [efn255]; exact (hm_un (hm_ne h196 hmfn192 (fun q => by cases q))).trans h196
            have h261 : fn255 ((r 4)) = some (eI Γ 8 (fun i => (gs i).2.2.2.1)) := by rw [efn255]; exact (hm_un (hm_ne h197 hmfn192 (fun q => by cases q))).trans h197
            have h262 : fn255 ((r 5)) = some (eI Γ 8 (fun i => (gs i).2.2.2.2.1)) := by rw [efn255]; exact (hm_un (hm_ne h198 hmfn192 (fun q => by cases q))).trans h198
            have h263 : fn255 ((r 6)) = some (eI Γ 8 (fun i => (gs i).2.2.2.2.2.1)) := by rw [efn255]; exact (hm_un (hm_ne h199 hmfn192 (fun q => by cases q))).trans h199
            have h264 : fn255 ((r 7)) = some (eI Γ 8 (fun i => (gs i).2.2.2.2.2.2.1)) := by rw [efn255]; exact (hm_un (hm_ne h200 hmfn192 (fun q => by cases q))).trans h200
            have h265 : fn255 ((r 8)) = some (eI Γ 8 (fun i => (gs i).2.2.2.2.2.2.2.1)) := by rw [efn255]; exact (hm_un (hm_ne h201 hmfn192 (fun q => by cases q))).trans h201
            have h266 : fn255 ((r 9)) = some (eZ Γ 8 (fun i => bI (gs i).2.2.2.2.2.2.2.2)) := by rw [efn255]; exact (hm_un (hm_ne h202 hmfn192 (fun q => by cases q))).trans h202
            have h267 : fn255 ((r 10)) = some (eJ Γ 60 (fun i => b4 (ts i).2.1)) := by rw [efn255]; exact (hm_un (hm_ne h203 hmfn192 (fun q => by cases q))).trans h203
            have h268 : fn255 ((r 11)) = some (eI Γ 60 (fun i => nI (ts i).2.2.1)) := by rw [efn255]; exact (hm_un (hm_ne h204 hmfn192 (fun q => by cases q))).trans h204
            have h269 : fn255 ((r 12)) = some (eI Γ 60 (fun i => nI (ts i).1)) := by rw [efn255]; exact (hm_un (hm_ne h205 hmfn192 (fun q => by cases q))).trans h205
            have h270 : fn255 ((r 13)) = some (eI Γ 60 (fun i => (ts i).2.2.2)) := by rw [efn255]; exact (hm_un (hm_ne h206 hmfn192 (fun q => by cases q))).trans h206
            have h271 : fn255 ((r 14)) = some (eJ Γ 64 (fun j => (K j).1)) := by rw [efn255]; exact (hm_un (hm_ne h207 hmfn192 (fun q => by cases q))).trans h207
            have h272 : fn255 ((r 15)) = some (eI Γ 64 (fun j => (K j).2.1)) := by rw [efn255]; exact (hm_un (hm_ne h208 hmfn192 (fun q => by cases q))).trans h208
            have h273 : fn255 ((r 16)) = some (eI Γ 64 (fun j => (K j).2.2.1)) := by rw [efn255]; exact (hm_un (hm_ne h209 hmfn192 (fun q => by cases q))).trans h209
            have h274 : fn255 ((r 17)) = some (eI Γ 64 (fun j => (K j).2.2.2.1)) := by rw [efn255]; exact (hm_un (hm_ne h210 hmfn192 (fun q => by cases q))).trans h210
            have h275 : fn255 ((r 18)) = some (eI Γ 64 (fun j => (K j).2.2.2.2.1)) := by rw [efn255]; exact (hm_un (hm_ne h211 hmfn192 (fun q => by cases q))).trans h211
            have h276 : fn255 ((r 19)) = some (eI Γ 64 (fun j => (K j).2.2.2.2.2.1)) := by rw [efn255]; exact (hm_un (hm_ne h212 hmfn192 (fun q => by cases q))).trans h212
            have h277 : fn255 ((r 20)) = some (eI Γ 64 (fun j => (K j).2.2.2.2.2.2)) := by rw [efn255]; exact (hm_un (hm_ne h213 hmfn192 (fun q => by cases q))).trans h213
            have h278 : fn255 ((r 21)) = some (eJ Γ 6 pb) := by rw [efn255]; exact (hm_un (hm_ne h214 hmfn192 (fun q => by cases q))).trans h214
            have h279 : fn255 ((r 22)) = some (eI Γ 6 pz) := by rw [efn255]; exact (hm_un (hm_ne h215 hmfn192 (fun q => by cases q))).trans h215
            have h280 : fn255 ((r 23)) = some (eI Γ 6 pd) := by rw [efn255]; exact (hm_un (hm_ne h216 hmfn192 (fun q => by cases q))).trans h216
            have h281 : fn255 ((r 24)) = some (eI Γ 6 pn) := by rw [efn255]; exact (hm_un (hm_ne h217 hmfn192 (fun q => by cases q))).trans h217
            have h282 : fn255 ((r 25)) = some (eI Γ 6 pe) := by rw [efn255]; exact (hm_un (hm_ne h218 hmfn192 (fun q => by cases q))).trans h218
            have h283 : fn255 ((r 26)) = some (eI Γ 6 ph) := by rw [efn255]; exact (hm_un (hm_ne h219 hmfn192 (fun q => by cases q))).trans h219
            have h284 : fn255 ((r 27)) = some (eI Γ 6 pg) := by rw [efn255]; exact (hm_un (hm_ne h220 hmfn192 (fun q => by cases q))).trans h220
            refine lv_if_eq (tgt := 68) hx hb dX8_push_63 (by decide) (fun _ => ?_) (fun c285 => absurd (by decide) c285)
            have hgo1 : goN (gs i).2.1 to = true := bI_n.mp c221
            refine lv_aload_n hx hb dX8_push_68 rfl (lv_at hl 0 rfl) ?_
            refine gf_X8_29 hx hb hts hown hK hH hm256 rfl dX8_push_69 ?_
            refine lv_iload_n hx hb dX8_push_72 rfl (lv_at hl 1 rfl) ?_
            refine lv_aload_n hx hb dX8_push_73 rfl (lv_at hl 0 rfl) ?_
            refine lv_aload_n hx hb dX8_push_74 rfl (lv_at hl 0 rfl) ?_
            refine gf_X8_13 hx hb hts hown hK hH hm256 rfl dX8_push_75 ?_
            refine lv_iload_n hx hb dX8_push_78 rfl (lv_at hl 1 rfl) ?_
            refine hm_lald hx hb hK hH h258 (vp_in_nI hi8 (by decide)) dX8_push_79 ?_
            refine lv_topl (fun v286 ev286 => ?_)
            replace ev286 : v286 = b4 (gs i).2.1 := ev286.trans (by show b4 (gs (nI i).toNatClampNeg).2.1 = _; rw [nI_clamp (n := i) (by omega)])
            subst ev286
            refine lv_aload_n hx hb dX8_push_80 rfl (lv_at hl 0 rfl) ?_
            refine gf_X8_17 hx hb hts hown hK hH hm256 rfl dX8_push_81 ?_
            refine lv_iload_n hx hb dX8_push_84 rfl (lv_at hl 1 rfl) ?_
            refine hm_iald hx hb hK hH h259 (vp_in_nI hi8 (by decide)) dX8_push_85 ?_
            refine lv_topi (fun v287 ev287 => ?_)
            replace ev287 : v287 = nI (gs i).2.2.1 := ev287.trans (by show nI (gs (nI i).toNatClampNeg).2.2.1 = _; rw [nI_clamp (n := i) (by omega)])
            subst ev287
            refine lv_aload_n hx hb dX8_push_86 rfl (lv_at hl 0 rfl) ?_
            refine gf_X8_20 hx hb hts hown hK hH hm256 rfl dX8_push_87 ?_
            refine lv_iload_n hx hb dX8_push_90 rfl (lv_at hl 1 rfl) ?_
            refine hm_iald hx hb hK hH h260 (vp_in_nI hi8 (by decide)) dX8_push_91 ?_
            refine lv_topi (fun v288 ev288 => ?_)
            replace ev288 : v288 = nI (gs i).1 := ev288.trans (by show nI (gs (nI i).toNatClampNeg).1 = _; rw [nI_clamp (n := i) (by omega)])
            subst ev288
            refine lv_iload_n hx hb dX8_push_92 rfl (lv_at hl 2 rfl) ?_
            refine hm_callV (rest := [.int (nI i), .ref ((r 6))]) (k := 1) q5_161 q5_163 q1_9 q5_164 q0_22 rfl nm_X8_led rfl hx hb hml hown hts hK hO hS hH hl.1 hm256 (c_X8_led Γ l m0 r 0 (nI np) (nI ng) (nI kp) (nI rr) ck lim dz (nI (gainT (gs i).2.1 to)) hih mih fh msh msm mso sp rf nt _ _ _ _ (b4 (gs i).2.1) (nI (gs i).2.2.1) (nI (gs i).1) (nI to) fn255 hm256 hnt h267 h268 h269 h270) ⟨Nat.le_of_ble_eq_true rfl, Nat.le_of_ble_eq_true rfl⟩ ⟨Nat.le_of_ble_eq_true rfl, Nat.le_of_ble_eq_true rfl⟩ rfl (Nat.le_of_ble_eq_true rfl) dX8_push_93 (fun v_ f_ H locs hp_ hH hS => ?_)
            obtain ⟨rfl, ef_⟩ := hp_
            rw [ef_] at hH
            clear ef_
            refine W.eq (g2 := F0 m 96 ls [.int (bI (folB (fun i => tx4 (ts i)) (b4 (gs i).2.1) (nI (gs i).2.2.1) (nI (gs i).1) (nI to) nt)), .int (nI i), .ref ((r 6))]) rfl ?_
            obtain ⟨FO, eFO⟩ : ∃ FO, FO = (folB (fun i => tx4 (ts i)) (b4 (gs i).2.1) (nI (gs i).2.2.1) (nI (gs i).1) (nI to) nt) := ⟨_, rfl⟩
            rw [← eFO]
            refine lv_if_eq (tgt := 110) hx hb dX8_push_96 (by decide) (fun c289 => ?_) (fun c289 => ?_)
            · refine lv_iconst (v := 0) hx hb dX8_push_110 (by decide) ?_
              refine hm_iast hx hb hK hO hS hH h263 (vp_in_nI hi8 (by decide)) dX8_push_111 (fun H locs hH hS => ?_)
              rw [nI_clamp (n := i) (by omega)] at hH
              obtain ⟨f290, ef290⟩ : ∃ zz_, zz_ = hm_up fn255 ((r 6)) (eI Γ 8 (upd (fun i => (gs i).2.2.2.2.2.1) i 0)) := ⟨_, rfl⟩
              have hH : hm_H Γ f290 H := by rw [ef290]; exact hH
              have h291 : f290 ((r 6)) = some (eI Γ 8 (upd (fun i => (gs i).2.2.2.2.2.1) i 0)) := by rw [ef290]; exact hm_us
              have h292 : f290 m0 = some (eM r 0 (nI np) (nI ng) (nI nt) (nI kp) (nI rr) ck lim dz (nI (gainT (gs i).2.1 to)) hih mih fh msh msm mso sp rf) := by rw [ef290]; exact (hm_un (hm_ne hm256 h263 (fun q => by cases q))).trans hm256
              have h293 : f290 ((r 0)) = some (eI Γ 4 mon) := by rw [ef290]; exact (hm_un (hrI 0 6 (by decide) (by decide) (by decide))).trans h257
              have h294 : f290 ((r 1)) = some (eJ Γ 8 (fun i => b4 (gs i).2.1)) := by rw [ef290]; exact (hm_un (hrI 1 6 (by decide) (by decide) (by decide))).trans h258
              have h295 : f290 ((r 2)) = some (eI Γ 8 (fun i => nI (gs i).2.2.1)) := by rw [ef290]; exact (hm_un (hrI 2 6 (by decide) (by decide) (by decide))).trans h259
              have h296 : f290 ((r 3)) = some (eI Γ 8 (fun i => nI (gs i).1)) := by rw [ef290]; exact (hm_un (hrI 3 6 (by decide) (by decide) (by decide))).trans h260
              have h297 : f290 ((r 4)) = some (eI Γ 8 (fun i => (gs i).2.2.2.1)) := by rw [ef290]; exact (hm_un (hrI 4 6 (by decide) (by decide) (by decide))).trans h261
              have h298 : f290 ((r 5)) = some (eI Γ 8 (fun i => (gs i).2.2.2.2.1)) := by rw [ef290]; exact (hm_un (hrI 5 6 (by decide) (by decide) (by decide))).trans h262
              have h299 : f290 ((r 7)) = some (eI Γ 8 (fun i => (gs i).2.2.2.2.2.2.1)) := by rw [ef290]; exact (hm_un (hrI 7 6 (by decide) (by decide) (by decide))).trans h264
              have h300 : f290 ((r 8)) = some (eI Γ 8 (fun i => (gs i).2.2.2.2.2.2.2.1)) := by rw [ef290]; exact (hm_un (hrI 8 6 (by decide) (by decide) (by decide))).trans h265
              have h301 : f290 ((r 9)) = some (eZ Γ 8 (fun i => bI (gs i).2.2.2.2.2.2.2.2)) := by rw [ef290]; exact (hm_un (hrI 9 6 (by decide) (by decide) (by decide))).trans h266
              have h302 : f290 ((r 10)) = some (eJ Γ 60 (fun i => b4 (ts i).2.1)) := by rw [ef290]; exact (hm_un (hrI 10 6 (by decide) (by decide) (by decide))).trans h267
              have h303 : f290 ((r 11)) = some (eI Γ 60 (fun i => nI (ts i).2.2.1)) := by rw [ef290]; exact (hm_un (hrI 11 6 (by decide) (by decide) (by decide))).trans h268
              have h304 : f290 ((r 12)) = some (eI Γ 60 (fun i => nI (ts i).1)) := by rw [ef290]; exact (hm_un (hrI 12 6 (by decide) (by decide) (by decide))).trans h269
              have h305 : f290 ((r 13)) = some (eI Γ 60 (fun i => (ts i).2.2.2)) := by rw [ef290]; exact (hm_un (hrI 13 6 (by decide) (by decide) (by decide))).trans h270
              have h306 : f290 ((r 14)) = some (eJ Γ 64 (fun j => (K j).1)) := by rw [ef290]; exact (hm_un (hrI 14 6 (by decide) (by decide) (by decide))).trans h271
              have h307 : f290 ((r 15)) = some (eI Γ 64 (fun j => (K j).2.1)) := by rw [ef290]; exact (hm_un (hrI 15 6 (by decide) (by decide) (by decide))).trans h272
              have h308 : f290 ((r 16)) = some (eI Γ 64 (fun j => (K j).2.2.1)) := by rw [ef290]; exact (hm_un (hrI 16 6 (by decide) (by decide) (by decide))).trans h273
              have h309 : f290 ((r 17)) = some (eI Γ 64 (fun j => (K j).2.2.2.1)) := by rw [ef290]; exact (hm_un (hrI 17 6 (by decide) (by decide) (by decide))).trans h274
              have h310 : f290 ((r 18)) = some (eI Γ 64 (fun j => (K j).2.2.2.2.1)) := by rw [ef290]; exact (hm_un (hrI 18 6 (by decide) (by decide) (by decide))).trans h275
              have h311 : f290 ((r 19)) = some (eI Γ 64 (fun j => (K j).2.2.2.2.2.1)) := by rw [ef290]; exact (hm_un (hrI 19 6 (by decide) (by decide) (by decide))).trans h276
              have h312 : f290 ((r 20)) = some (eI Γ 64 (fun j => (K j).2.2.2.2.2.2)) := by rw [ef290]; exact (hm_un (hrI 20 6 (by decide) (by decide) (by decide))).trans h277
              have h313 : f290 ((r 21)) = some (eJ Γ 6 pb) := by rw [ef290]; exact (hm_un (hrI 21 6 (by decide) (by decide) (by decide))).trans h278
              have h314 : f290 ((r 22)) = some (eI Γ 6 pz) := by rw [ef290]; exact (hm_un (hrI 22 6 (by decide) (by decide) (by decide))).trans h279
              have h315 : f290 ((r 23)) = some (eI Γ 6 pd) := by rw [ef290]; exact (hm_un (hrI 23 6 (by decide) (by decide) (by decide))).trans h280
              have h316 : f290 ((r 24)) = some (eI Γ 6 pn) := by rw [ef290]; exact (hm_un (hrI 24 6 (by decide) (by decide) (by decide))).trans h281
              have h317 : f290 ((r 25)) = some (eI Γ 6 pe) := by rw [ef290]; exact (hm_un (hrI 25 6 (by decide) (by decide) (by decide))).trans h282
              have h318 : f290 ((r 26)) = some (eI Γ 6 ph) := by rw [ef290]; exact (hm_un (hrI 26 6 (by decide) (by decide) (by decide))).trans h283
              have h319 : f290 ((r 27)) = some (eI Γ 6 pg) := by rw [ef290]; exact (hm_un (hrI 27 6 (by decide) (by decide) (by decide))).trans h284
              have hFO : FO = false := bI_0.mp c289
              have hrw : (if FO = true then (gs i).2.2.2.2.2.1 + 1 else 0) = 0 := by rw [hFO]; rfl
              refine lv_aload_n hx hb dX8_push_112 rfl (lv_at hl 0 rfl) ?_
              refine gf_X8_29 hx hb hts hown hK hH h292 rfl dX8_push_113 ?_
              refine lv_iload_n hx hb dX8_push_116 rfl (lv_at hl 1 rfl) ?_
              refine hm_iald hx hb hK hH h291 (vp_in_nI hi8 (by decide)) dX8_push_117 ?_
              refine lv_topi (fun v320 ev320 => ?_)
              replace ev320 : v320 = ((if FO = true then (gs i).2.2.2.2.2.1 + 1 else 0)) := ev320.trans (by show upd _ i _ (nI i).toNatClampNeg = _; rw [nI_clamp (n := i) (by omega), hrw]; exact upd_s)
              subst ev320
              refine lv_aload_n hx hb dX8_push_118 rfl (lv_at hl 0 rfl) ?_
              refine gf_X8_32 hx hb hts hown hK hH h292 rfl dX8_push_119 ?_
              refine lv_iload_n hx hb dX8_push_122 rfl (lv_at hl 1 rfl) ?_
              refine hm_iald hx hb hK hH h299 (vp_in_nI hi8 (by decide)) dX8_push_123 ?_
              refine lv_topi (fun v321 ev321 => ?_)
              replace ev321 : v321 = (gs i).2.2.2.2.2.2.1 := ev321.trans (by show (gs (nI i).toNatClampNeg).2.2.2.2.2.2.1 = _; rw [nI_clamp (n := i) (by omega)])
              subst ev321
              refine lv_icmp_le (tgt := 139) hx hb dX8_push_124 (by decide) (fun c322 => ?_) (fun c322 => ?_)
              · have hmx : mxI (gs i).2.2.2.2.2.2.1 (if FO = true then (gs i).2.2.2.2.2.1 + 1 else 0) = (gs i).2.2.2.2.2.2.1 := by unfold mxI; rw [if_neg (Int32.not_lt.mpr c322)]
                refine lv_aload_n hx hb dX8_push_139 rfl (lv_at hl 0 rfl) ?_
                refine lv_aload_n hx hb dX8_push_140 rfl (lv_at hl 0 rfl) ?_
                refine gf_X8_13 hx hb hts hown hK hH h292 rfl dX8_push_141 ?_
                refine lv_iload_n hx hb dX8_push_144 rfl (lv_at hl 1 rfl) ?_
                refine hm_lald hx hb hK hH h294 (vp_in_nI hi8 (by decide)) dX8_push_145 ?_
                refine lv_topl (fun v323 ev323 => ?_)
                replace ev323 : v323 = b4 (gs i).2.1 := ev323.trans (by show b4 (gs (nI i).toNatClampNeg).2.1 = _; rw [nI_clamp (n := i) (by omega)])
                subst ev323
                refine lv_iload_n hx hb dX8_push_146 rfl (lv_at hl 2 rfl) ?_
                refine hm_callV (rest := []) (k := 2) q5_154 q5_156 q1_9 q5_157 q0_21 rfl nm_X8_pushed rfl hx hb hml hown hts hK hO hS hH hl.1 h292 (c_X8_pushed Γ l m0 r 0 (nI np) (nI ng) (nI nt) (nI kp) (nI rr) ck lim dz (nI (gainT (gs i).2.1 to)) hih mih fh msh msm mso sp rf (gs i).2.1 to f290 h292 ht15 hto) ⟨Nat.le_of_ble_eq_true rfl, Nat.le_of_ble_eq_true rfl⟩ ⟨Nat.le_of_ble_eq_true rfl, Nat.le_of_ble_eq_true rfl⟩ rfl (Nat.le_of_ble_eq_true rfl) dX8_push_147 (fun v_ fn324 H locs hp_ hH hS => ?_)
                obtain ⟨rfl, efn324⟩ := hp_
                refine W.eq (g2 := F0 m 150 ls [.long (b4 (pushT (gs i).2.1 to))]) rfl ?_
                have hmfn324 : fn324 m0 = some (eM r 0 (nI np) (nI ng) (nI nt) (nI kp) (nI rr) ck lim dz (nI (gainT (gs i).2.1 to)) hih mih fh msh msm mso sp rf) := by rw [efn324]; exact hm_us
                have h325 : fn324 ((r 0)) = some (eI Γ 4 mon) := by rw [efn324]; exact (hm_un (hm_ne h293 h292 (fun q => by cases q))).trans h293
                have h326 : fn324 ((r 1)) = some (eJ Γ 8 (fun i => b4 (gs i).2.1)) := by rw [efn324]; exact (hm_un (hm_ne h294 h292 (fun q => by cases q))).trans h294
                have h327 : fn324 ((r 2)) = some (eI Γ 8 (fun i => nI (gs i).2.2.1)) := by rw [efn324]; exact (hm_un (hm_ne h295 h292 (fun q => by cases q))).trans h295
                have h328 : fn324 ((r 3)) = some (eI Γ 8 (fun i => nI (gs i).1)) := by rw [efn324]; exact (hm_un (hm_ne h296 h292 (fun q => by cases q))).trans h296
                have h329 : fn324 ((r 4)) = some (eI Γ 8 (fun i => (gs i).2.2.2.1)) := by rw [efn324]; exact (hm_un (hm_ne h297 h292 (fun q => by cases q))).trans h297
                have h330 : fn324 ((r 5)) = some (eI Γ 8 (fun i => (gs i).2.2.2.2.1)) := by rw [efn324]; exact (hm_un (hm_ne h298 h292 (fun q => by cases q))).trans h298
                have h331 : fn324 ((r 6)) = some (eI Γ 8 (upd (fun i => (gs i).2.2.2.2.2.1) i 0)) := by rw [efn324]; exact (hm_un (hm_ne h291 h292 (fun q => by cases q))).trans h291
                have h332 : fn324 ((r 7)) = some (eI Γ 8 (fun i => (gs i).2.2.2.2.2.2.1)) := by rw [efn324]; exact (hm_un (hm_ne h299 h292 (fun q => by cases q))).trans h299
                have h333 : fn324 ((r 8)) = some (eI Γ 8 (fun i => (gs i).2.2.2.2.2.2.2.1)) := by rw [efn324]; exact (hm_un (hm_ne h300 h292 (fun q => by cases q))).trans h300
                have h334 : fn324 ((r 9)) = some (eZ Γ 8 (fun i => bI (gs i).2.2.2.2.2.2.2.2)) := by rw [efn324]; exact (hm_un (hm_ne h301 h292 (fun q => by cases q))).trans h301
                have h335 : fn324 ((r 10)) = some (eJ Γ 60 (fun i => b4 (ts i).2.1)) := by rw [efn324]; exact (hm_un (hm_ne h302 h292 (fun q => by cases q))).trans h302
                have h336 : fn324 ((r 11)) = some (eI Γ 60 (fun i => nI (ts i).2.2.1)) := by rw [efn324]; exact (hm_un (hm_ne h303 h292 (fun q => by cases q))).trans h303
                have h337 : fn324 ((r 12)) = some (eI Γ 60 (fun i => nI (ts i).1)) := by rw [efn324]; exact (hm_un (hm_ne h304 h292 (fun q => by cases q))).trans h304
                have h338 : fn324 ((r 13)) = some (eI Γ 60 (fun i => (ts i).2.2.2)) := by rw [efn324]; exact (hm_un (hm_ne h305 h292 (fun q => by cases q))).trans h305
                have h339 : fn324 ((r 14)) = some (eJ Γ 64 (fun j => (K j).1)) := by rw [efn324]; exact (hm_un (hm_ne h306 h292 (fun q => by cases q))).trans h306
                have h340 : fn324 ((r 15)) = some (eI Γ 64 (fun j => (K j).2.1)) := by rw [efn324]; exact (hm_un (hm_ne h307 h292 (fun q => by cases q))).trans h307
                have h341 : fn324 ((r 16)) = some (eI Γ 64 (fun j => (K j).2.2.1)) := by rw [efn324]; exact (hm_un (hm_ne h308 h292 (fun q => by cases q))).trans h308
                have h342 : fn324 ((r 17)) = some (eI Γ 64 (fun j => (K j).2.2.2.1)) := by rw [efn324]; exact (hm_un (hm_ne h309 h292 (fun q => by cases q))).trans h309
                have h343 : fn324 ((r 18)) = some (eI Γ 64 (fun j => (K j).2.2.2.2.1)) := by rw [efn324]; exact (hm_un (hm_ne h310 h292 (fun q => by cases q))).trans h310
                have h344 : fn324 ((r 19)) = some (eI Γ 64 (fun j => (K j).2.2.2.2.2.1)) := by rw [efn324]; exact (hm_un (hm_ne h311 h292 (fun q => by cases q))).trans h311
                have h345 : fn324 ((r 20)) = some (eI Γ 64 (fun j => (K j).2.2.2.2.2.2)) := by rw [efn324]; exact (hm_un (hm_ne h312 h292 (fun q => by cases q))).trans h312
                have h346 : fn324 ((r 21)) = some (eJ Γ 6 pb) := by rw [efn324]; exact (hm_un (hm_ne h313 h292 (fun q => by cases q))).trans h313
                have h347 : fn324 ((r 22)) = some (eI Γ 6 pz) := by rw [efn324]; exact (hm_un (hm_ne h314 h292 (fun q => by cases q))).trans h314
                have h348 : fn324 ((r 23)) = some (eI Γ 6 pd) := by rw [efn324]; exact (hm_un (hm_ne h315 h292 (fun q => by cases q))).trans h315
                have h349 : fn324 ((r 24)) = some (eI Γ 6 pn) := by rw [efn324]; exact (hm_un (hm_ne h316 h292 (fun q => by cases q))).trans h316
                have h350 : fn324 ((r 25)) = some (eI Γ 6 pe) := by rw [efn324]; exact (hm_un (hm_ne h317 h292 (fun q => by cases q))).trans h317
                have h351 : fn324 ((r 26)) = some (eI Γ 6 ph) := by rw [efn324]; exact (hm_un (hm_ne h318 h292 (fun q => by cases q))).trans h318
                have h352 : fn324 ((r 27)) = some (eI Γ 6 pg) := by rw [efn324]; exact (hm_un (hm_ne h319 h292 (fun q => by cases q))).trans h319
                refine lv_lstore_n (lv' := [(3, .long (b4 (pushT (gs i).2.1 to))), (0, .ref m0), (1, .int (nI i)), (2, .int (nI to))]) hx hb dX8_push_150 rfl hl (by decide) rfl (fun ls hl => ?_)
                refine lv_aload_n hx hb dX8_push_151 rfl (lv_at hl 1 rfl) ?_
                refine gf_X8_113 hx hb hts hown hK hH hmfn324 rfl dX8_push_152 ?_
                refine lv_istore (lv' := [(5, .int (nI (gainT (gs i).2.1 to))), (3, .long (b4 (pushT (gs i).2.1 to))), (0, .ref m0), (1, .int (nI i)), (2, .int (nI to))]) hx hb dX8_push_155 hl (by decide) rfl (fun ls hl => ?_)
                refine lv_aload_n hx hb dX8_push_157 rfl (lv_at hl 2 rfl) ?_
                refine gf_X8_13 hx hb hts hown hK hH hmfn324 rfl dX8_push_158 ?_
                refine lv_iload_n hx hb dX8_push_161 rfl (lv_at hl 3 rfl) ?_
                refine lv_aload_n hx hb dX8_push_162 rfl (lv_at hl 2 rfl) ?_
                refine lv_lload_n hx hb dX8_push_163 rfl (lv_at hl 1 rfl) ?_
                refine lv_aload_n hx hb dX8_push_164 rfl (lv_at hl 2 rfl) ?_
                refine gf_X8_17 hx hb hts hown hK hH hmfn324 rfl dX8_push_165 ?_
                refine lv_iload_n hx hb dX8_push_168 rfl (lv_at hl 3 rfl) ?_
                refine hm_iald hx hb hK hH h327 (vp_in_nI hi8 (by decide)) dX8_push_169 ?_
                refine lv_topi (fun v353 ev353 => ?_)
                replace ev353 : v353 = nI (gs i).2.2.1 := ev353.trans (by show nI (gs (nI i).toNatClampNeg).2.2.1 = _; rw [nI_clamp (n := i) (by omega)])
                subst ev353
                refine hm_callV (rest := [.int (nI i), .ref ((r 1))]) (k := 2) q5_127 q5_129 q1_9 q5_130 q0_18 rfl nm_X8_drawn rfl hx hb hml hown hts hK hO hS hH hl.1 hmfn324 (c_X8_drawn Γ l m0 r 0 (nI np) (nI ng) (nI nt) (nI kp) (nI rr) ck lim dz (nI (gainT (gs i).2.1 to)) hih mih fh msh msm mso sp rf (pushT (gs i).2.1 to) (gs i).2.2.1 fn324 hmfn324 (pushT_lt ht15 hto) hgz (push_gap hto hgo1)) ⟨Nat.le_of_ble_eq_true rfl, Nat.le_of_ble_eq_true rfl⟩ ⟨Nat.le_of_ble_eq_true rfl, Nat.le_of_ble_eq_true rfl⟩ rfl (Nat.le_of_ble_eq_true rfl) dX8_push_170 (fun v_ fn354 H locs hp_ hH hS => ?_)
                obtain ⟨rfl, efn354⟩ := hp_
                refine W.eq (g2 := F0 m 173 ls [.long (b4 (drawT (pushT (gs i).2.1 to) (gs i).2.2.1)), .int (nI i), .ref ((r 1))]) rfl ?_
                have hmfn354 : fn354 m0 = some (eM r 0 (nI np) (nI ng) (nI nt) (nI kp) (nI rr) ck lim (nI (nxt (nxt (gs i).2.2.1))) (nI (gainT (gs i).2.1 to)) hih mih fh msh msm mso sp rf) := by rw [efn354]; exact hm_us
                have h355 : fn354 ((r 0)) = some (eI Γ 4 mon) := by rw [efn354]; exact (hm_un (hm_ne h325 hmfn324 (fun q => by cases q))).trans h325
                have h356 : fn354 ((r 1)) = some (eJ Γ 8 (fun i => b4 (gs i).2.1)) := by rw [efn354]; exact (hm_un (hm_ne h326 hmfn324 (fun q => by cases q))).trans h326
                have h357 : fn354 ((r 2)) = some (eI Γ 8 (fun i => nI (gs i).2.2.1)) := by rw [efn354]; exact (hm_un (hm_ne h327 hmfn324 (fun q => by cases q))).trans h327
                have h358 : fn354 ((r 3)) = some (eI Γ 8 (fun i => nI (gs i).1)) := by rw [efn354]; exact (hm_un (hm_ne h328 hmfn324 (fun q => by cases q))).trans h328
                have h359 : fn354 ((r 4)) = some (eI Γ 8 (fun i => (gs i).2.2.2.1)) := by rw [efn354]; exact (hm_un (hm_ne h329 hmfn324 (fun q => by cases q))).trans h329
                have h360 : fn354 ((r 5)) = some (eI Γ 8 (fun i => (gs i).2.2.2.2.1)) := by rw [efn354]; exact (hm_un (hm_ne h330 hmfn324 (fun q => by cases q))).trans h330
                have h361 : fn354 ((r 6)) = some (eI Γ 8 (upd (fun i => (gs i).2.2.2.2.2.1) i 0)) := by rw [efn354]; exact (hm_un (hm_ne h331 hmfn324 (fun q => by cases q))).trans h331
                have h362 : fn354 ((r 7)) = some (eI Γ 8 (fun i => (gs i).2.2.2.2.2.2.1)) := by rw [efn354]; exact (hm_un (hm_ne h332 hmfn324 (fun q => by cases q))).trans h332
                have h363 : fn354 ((r 8)) = some (eI Γ 8 (fun i => (gs i).2.2.2.2.2.2.2.1)) := by rw [efn354]; exact (hm_un (hm_ne h333 hmfn324 (fun q => by cases q))).trans h333
                have h364 : fn354 ((r 9)) = some (eZ Γ 8 (fun i => bI (gs i).2.2.2.2.2.2.2.2)) := by rw [efn354]; exact (hm_un (hm_ne h334 hmfn324 (fun q => by cases q))).trans h334
                have h365 : fn354 ((r 10)) = some (eJ Γ 60 (fun i => b4 (ts i).2.1)) := by rw [efn354]; exact (hm_un (hm_ne h335 hmfn324 (fun q => by cases q))).trans h335
                have h366 : fn354 ((r 11)) = some (eI Γ 60 (fun i => nI (ts i).2.2.1)) := by rw [efn354]; exact (hm_un (hm_ne h336 hmfn324 (fun q => by cases q))).trans h336
                have h367 : fn354 ((r 12)) = some (eI Γ 60 (fun i => nI (ts i).1)) := by rw [efn354]; exact (hm_un (hm_ne h337 hmfn324 (fun q => by cases q))).trans h337
                have h368 : fn354 ((r 13)) = some (eI Γ 60 (fun i => (ts i).2.2.2)) := by rw [efn354]; exact (hm_un (hm_ne h338 hmfn324 (fun q => by cases q))).trans h338
                have h369 : fn354 ((r 14)) = some (eJ Γ 64 (fun j => (K j).1)) := by rw [efn354]; exact (hm_un (hm_ne h339 hmfn324 (fun q => by cases q))).trans h339
                have h370 : fn354 ((r 15)) = some (eI Γ 64 (fun j => (K j).2.1)) := by rw [efn354]; exact (hm_un (hm_ne h340 hmfn324 (fun q => by cases q))).trans h340
                have h371 : fn354 ((r 16)) = some (eI Γ 64 (fun j => (K j).2.2.1)) := by rw [efn354]; exact (hm_un (hm_ne h341 hmfn324 (fun q => by cases q))).trans h341
                have h372 : fn354 ((r 17)) = some (eI Γ 64 (fun j => (K j).2.2.2.1)) := by rw [efn354]; exact (hm_un (hm_ne h342 hmfn324 (fun q => by cases q))).trans h342
                have h373 : fn354 ((r 18)) = some (eI Γ 64 (fun j => (K j).2.2.2.2.1)) := by rw [efn354]; exact (hm_un (hm_ne h343 hmfn324 (fun q => by cases q))).trans h343
                have h374 : fn354 ((r 19)) = some (eI Γ 64 (fun j => (K j).2.2.2.2.2.1)) := by rw [efn354]; exact (hm_un (hm_ne h344 hmfn324 (fun q => by cases q))).trans h344
                have h375 : fn354 ((r 20)) = some (eI Γ 64 (fun j => (K j).2.2.2.2.2.2)) := by rw [efn354]; exact (hm_un (hm_ne h345 hmfn324 (fun q => by cases q))).trans h345
                have h376 : fn354 ((r 21)) = some (eJ Γ 6 pb) := by rw [efn354]; exact (hm_un (hm_ne h346 hmfn324 (fun q => by cases q))).trans h346
                have h377 : fn354 ((r 22)) = some (eI Γ 6 pz) := by rw [efn354]; exact (hm_un (hm_ne h347 hmfn324 (fun q => by cases q))).trans h347
                have h378 : fn354 ((r 23)) = some (eI Γ 6 pd) := by rw [efn354]; exact (hm_un (hm_ne h348 hmfn324 (fun q => by cases q))).trans h348
                have h379 : fn354 ((r 24)) = some (eI Γ 6 pn) := by rw [efn354]; exact (hm_un (hm_ne h349 hmfn324 (fun q => by cases q))).trans h349
                have h380 : fn354 ((r 25)) = some (eI Γ 6 pe) := by rw [efn354]; exact (hm_un (hm_ne h350 hmfn324 (fun q => by cases q))).trans h350
                have h381 : fn354 ((r 26)) = some (eI Γ 6 ph) := by rw [efn354]; exact (hm_un (hm_ne h351 hmfn324 (fun q => by cases q))).trans h351
                have h382 : fn354 ((r 27)) = some (eI Γ 6 pg) := by rw [efn354]; exact (hm_un (hm_ne h352 hmfn324 (fun q => by cases q))).trans h352
                refine hm_last hx hb hK hO hS hH h356 (vp_in_nI hi8 (by decide)) dX8_push_173 (fun H locs hH hS => ?_)
                rw [nI_clamp (n := i) (by omega)] at hH
                obtain ⟨f383, ef383⟩ : ∃ zz_, zz_ = hm_up fn354 ((r 1)) (eJ Γ 8 (vp_updL (fun i => b4 (gs i).2.1) i (b4 (drawT (pushT (gs i).2.1 to) (gs i).2.2.1)))) := ⟨_, rfl⟩
                have hH : hm_H Γ f383 H := by rw [ef383]; exact hH
                have h384 : f383 ((r 1)) = some (eJ Γ 8 (vp_updL (fun i => b4 (gs i).2.1) i (b4 (drawT (pushT (gs i).2.1 to) (gs i).2.2.1)))) := by rw [ef383]; exact hm_us
                have h385 : f383 m0 = some (eM r 0 (nI np) (nI ng) (nI nt) (nI kp) (nI rr) ck lim (nI (nxt (nxt (gs i).2.2.1))) (nI (gainT (gs i).2.1 to)) hih mih fh msh msm mso sp rf) := by rw [ef383]; exact (hm_un (hm_ne hmfn354 h356 (fun q => by cases q))).trans hmfn354
                have h386 : f383 ((r 0)) = some (eI Γ 4 mon) := by rw [ef383]; exact (hm_un (hrI 0 1 (by decide) (by decide) (by decide))).trans h355
                have h387 : f383 ((r 2)) = some (eI Γ 8 (fun i => nI (gs i).2.2.1)) := by rw [ef383]; exact (hm_un (hrI 2 1 (by decide) (by decide) (by decide))).trans h357
                have h388 : f383 ((r 3)) = some (eI Γ 8 (fun i => nI (gs i).1)) := by rw [ef383]; exact (hm_un (hrI 3 1 (by decide) (by decide) (by decide))).trans h358
                have h389 : f383 ((r 4)) = some (eI Γ 8 (fun i => (gs i).2.2.2.1)) := by rw [ef383]; exact (hm_un (hrI 4 1 (by decide) (by decide) (by decide))).trans h359
                have h390 : f383 ((r 5)) = some (eI Γ 8 (fun i => (gs i).2.2.2.2.1)) := by rw [ef383]; exact (hm_un (hrI 5 1 (by decide) (by decide) (by decide))).trans h360
                have h391 : f383 ((r 6)) = some (eI Γ 8 (upd (fun i => (gs i).2.2.2.2.2.1) i 0)) := by rw [ef383]; exact (hm_un (hrI 6 1 (by decide) (by decide) (by decide))).trans h361
                have h392 : f383 ((r 7)) = some (eI Γ 8 (fun i => (gs i).2.2.2.2.2.2.1)) := by rw [ef383]; exact (hm_un (hrI 7 1 (by decide) (by decide) (by decide))).trans h362
                have h393 : f383 ((r 8)) = some (eI Γ 8 (fun i => (gs i).2.2.2.2.2.2.2.1)) := by rw [ef383]; exact (hm_un (hrI 8 1 (by decide) (by decide) (by decide))).trans h363
                have h394 : f383 ((r 9)) = some (eZ Γ 8 (fun i => bI (gs i).2.2.2.2.2.2.2.2)) := by rw [ef383]; exact (hm_un (hrI 9 1 (by decide) (by decide) (by decide))).trans h364
                have h395 : f383 ((r 10)) = some (eJ Γ 60 (fun i => b4 (ts i).2.1)) := by rw [ef383]; exact (hm_un (hrI 10 1 (by decide) (by decide) (by decide))).trans h365
                have h396 : f383 ((r 11)) = some (eI Γ 60 (fun i => nI (ts i).2.2.1)) := by rw [ef383]; exact (hm_un (hrI 11 1 (by decide) (by decide) (by decide))).trans h366
                have h397 : f383 ((r 12)) = some (eI Γ 60 (fun i => nI (ts i).1)) := by rw [ef383]; exact (hm_un (hrI 12 1 (by decide) (by decide) (by decide))).trans h367
                have h398 : f383 ((r 13)) = some (eI Γ 60 (fun i => (ts i).2.2.2)) := by rw [ef383]; exact (hm_un (hrI 13 1 (by decide) (by decide) (by decide))).trans h368
                have h399 : f383 ((r 14)) = some (eJ Γ 64 (fun j => (K j).1)) := by rw [ef383]; exact (hm_un (hrI 14 1 (by decide) (by decide) (by decide))).trans h369
                have h400 : f383 ((r 15)) = some (eI Γ 64 (fun j => (K j).2.1)) := by rw [ef383]; exact (hm_un (hrI 15 1 (by decide) (by decide) (by decide))).trans h370
                have h401 : f383 ((r 16)) = some (eI Γ 64 (fun j => (K j).2.2.1)) := by rw [ef383]; exact (hm_un (hrI 16 1 (by decide) (by decide) (by decide))).trans h371
                have h402 : f383 ((r 17)) = some (eI Γ 64 (fun j => (K j).2.2.2.1)) := by rw [ef383]; exact (hm_un (hrI 17 1 (by decide) (by decide) (by decide))).trans h372
                have h403 : f383 ((r 18)) = some (eI Γ 64 (fun j => (K j).2.2.2.2.1)) := by rw [ef383]; exact (hm_un (hrI 18 1 (by decide) (by decide) (by decide))).trans h373
                have h404 : f383 ((r 19)) = some (eI Γ 64 (fun j => (K j).2.2.2.2.2.1)) := by rw [ef383]; exact (hm_un (hrI 19 1 (by decide) (by decide) (by decide))).trans h374
                have h405 : f383 ((r 20)) = some (eI Γ 64 (fun j => (K j).2.2.2.2.2.2)) := by rw [ef383]; exact (hm_un (hrI 20 1 (by decide) (by decide) (by decide))).trans h375
                have h406 : f383 ((r 21)) = some (eJ Γ 6 pb) := by rw [ef383]; exact (hm_un (hrI 21 1 (by decide) (by decide) (by decide))).trans h376
                have h407 : f383 ((r 22)) = some (eI Γ 6 pz) := by rw [ef383]; exact (hm_un (hrI 22 1 (by decide) (by decide) (by decide))).trans h377
                have h408 : f383 ((r 23)) = some (eI Γ 6 pd) := by rw [ef383]; exact (hm_un (hrI 23 1 (by decide) (by decide) (by decide))).trans h378
                have h409 : f383 ((r 24)) = some (eI Γ 6 pn) := by rw [ef383]; exact (hm_un (hrI 24 1 (by decide) (by decide) (by decide))).trans h379
                have h410 : f383 ((r 25)) = some (eI Γ 6 pe) := by rw [ef383]; exact (hm_un (hrI 25 1 (by decide) (by decide) (by decide))).trans h380
                have h411 : f383 ((r 26)) = some (eI Γ 6 ph) := by rw [ef383]; exact (hm_un (hrI 26 1 (by decide) (by decide) (by decide))).trans h381
                have h412 : f383 ((r 27)) = some (eI Γ 6 pg) := by rw [ef383]; exact (hm_un (hrI 27 1 (by decide) (by decide) (by decide))).trans h382
                refine lv_aload_n hx hb dX8_push_174 rfl (lv_at hl 2 rfl) ?_
                refine gf_X8_17 hx hb hts hown hK hH h385 rfl dX8_push_175 ?_
                refine lv_iload_n hx hb dX8_push_178 rfl (lv_at hl 3 rfl) ?_
                refine lv_aload_n hx hb dX8_push_179 rfl (lv_at hl 2 rfl) ?_
                refine gf_X8_135 hx hb hts hown hK hH h385 rfl dX8_push_180 ?_
                refine hm_iast hx hb hK hO hS hH h387 (vp_in_nI hi8 (by decide)) dX8_push_183 (fun H locs hH hS => ?_)
                rw [nI_clamp (n := i) (by omega)] at hH
                obtain ⟨f413, ef413⟩ : ∃ zz_, zz_ = hm_up f383 ((r 2)) (eI Γ 8 (upd (fun i => nI (gs i).2.2.1) i (nI (nxt (nxt (gs i).2.2.1))))) := ⟨_, rfl⟩
                have hH : hm_H Γ f413 H := by rw [ef413]; exact hH
                have h414 : f413 ((r 2)) = some (eI Γ 8 (upd (fun i => nI (gs i).2.2.1) i (nI (nxt (nxt (gs i).2.2.1))))) := by rw [ef413]; exact hm_us
                have h415 : f413 m0 = some (eM r 0 (nI np) (nI ng) (nI nt) (nI kp) (nI rr) ck lim (nI (nxt (nxt (gs i).2.2.1))) (nI (gainT (gs i).2.1 to)) hih mih fh msh msm mso sp rf) := by rw [ef413]; exact (hm_un (hm_ne h385 h387 (fun q => by cases q))).trans h385
                have h416 : f413 ((r 0)) = some (eI Γ 4 mon) := by rw [ef413]; exact (hm_un (hrI 0 2 (by decide) (by decide) (by decide))).trans h386
                have h417 : f413 ((r 1)) = some (eJ Γ 8 (vp_updL (fun i => b4 (gs i).2.1) i (b4 (drawT (pushT (gs i).2.1 to) (gs i).2.2.1)))) := by rw [ef413]; exact (hm_un (hrI 1 2 (by decide) (by decide) (by decide))).trans h384
                have h418 : f413 ((r 3)) = some (eI Γ 8 (fun i => nI (gs i).1)) := by rw [ef413]; exact (hm_un (hrI 3 2 (by decide) (by decide) (by decide))).trans h388
                have h419 : f413 ((r 4)) = some (eI Γ 8 (fun i => (gs i).2.2.2.1)) := by rw [ef413]; exact (hm_un (hrI 4 2 (by decide) (by decide) (by decide))).trans h389
                have h420 : f413 ((r 5)) = some (eI Γ 8 (fun i => (gs i).2.2.2.2.1)) := by rw [ef413]; exact (hm_un (hrI 5 2 (by decide) (by decide) (by decide))).trans h390
                have h421 : f413 ((r 6)) = some (eI Γ 8 (upd (fun i => (gs i).2.2.2.2.2.1) i 0)) := by rw [ef413]; exact (hm_un (hrI 6 2 (by decide) (by decide) (by decide))).trans h391
                have h422 : f413 ((r 7)) = some (eI Γ 8 (fun i => (gs i).2.2.2.2.2.2.1)) := by rw [ef413]; exact (hm_un (hrI 7 2 (by decide) (by decide) (by decide))).trans h392
                have h423 : f413 ((r 8)) = some (eI Γ 8 (fun i => (gs i).2.2.2.2.2.2.2.1)) := by rw [ef413]; exact (hm_un (hrI 8 2 (by decide) (by decide) (by decide))).trans h393
                have h424 : f413 ((r 9)) = some (eZ Γ 8 (fun i => bI (gs i).2.2.2.2.2.2.2.2)) := by rw [ef413]; exact (hm_un (hrI 9 2 (by decide) (by decide) (by decide))).trans h394
                have h425 : f413 ((r 10)) = some (eJ Γ 60 (fun i => b4 (ts i).2.1)) := by rw [ef413]; exact (hm_un (hrI 10 2 (by decide) (by decide) (by decide))).trans h395
                have h426 : f413 ((r 11)) = some (eI Γ 60 (fun i => nI (ts i).2.2.1)) := by rw [ef413]; exact (hm_un (hrI 11 2 (by decide) (by decide) (by decide))).trans h396
                have h427 : f413 ((r 12)) = some (eI Γ 60 (fun i => nI (ts i).1)) := by rw [ef413]; exact (hm_un (hrI 12 2 (by decide) (by decide) (by decide))).trans h397
                have h428 : f413 ((r 13)) = some (eI Γ 60 (fun i => (ts i).2.2.2)) := by rw [ef413]; exact (hm_un (hrI 13 2 (by decide) (by decide) (by decide))).trans h398
                have h429 : f413 ((r 14)) = some (eJ Γ 64 (fun j => (K j).1)) := by rw [ef413]; exact (hm_un (hrI 14 2 (by decide) (by decide) (by decide))).trans h399
                have h430 : f413 ((r 15)) = some (eI Γ 64 (fun j => (K j).2.1)) := by rw [ef413]; exact (hm_un (hrI 15 2 (by decide) (by decide) (by decide))).trans h400
                have h431 : f413 ((r 16)) = some (eI Γ 64 (fun j => (K j).2.2.1)) := by rw [ef413]; exact (hm_un (hrI 16 2 (by decide) (by decide) (by decide))).trans h401
                have h432 : f413 ((r 17)) = some (eI Γ 64 (fun j => (K j).2.2.2.1)) := by rw [ef413]; exact (hm_un (hrI 17 2 (by decide) (by decide) (by decide))).trans h402
                have h433 : f413 ((r 18)) = some (eI Γ 64 (fun j => (K j).2.2.2.2.1)) := by rw [ef413]; exact (hm_un (hrI 18 2 (by decide) (by decide) (by decide))).trans h403
                have h434 : f413 ((r 19)) = some (eI Γ 64 (fun j => (K j).2.2.2.2.2.1)) := by rw [ef413]; exact (hm_un (hrI 19 2 (by decide) (by decide) (by decide))).trans h404
                have h435 : f413 ((r 20)) = some (eI Γ 64 (fun j => (K j).2.2.2.2.2.2)) := by rw [ef413]; exact (hm_un (hrI 20 2 (by decide) (by decide) (by decide))).trans h405
                have h436 : f413 ((r 21)) = some (eJ Γ 6 pb) := by rw [ef413]; exact (hm_un (hrI 21 2 (by decide) (by decide) (by decide))).trans h406
                have h437 : f413 ((r 22)) = some (eI Γ 6 pz) := by rw [ef413]; exact (hm_un (hrI 22 2 (by decide) (by decide) (by decide))).trans h407
                have h438 : f413 ((r 23)) = some (eI Γ 6 pd) := by rw [ef413]; exact (hm_un (hrI 23 2 (by decide) (by decide) (by decide))).trans h408
                have h439 : f413 ((r 24)) = some (eI Γ 6 pn) := by rw [ef413]; exact (hm_un (hrI 24 2 (by decide) (by decide) (by decide))).trans h409
                have h440 : f413 ((r 25)) = some (eI Γ 6 pe) := by rw [ef413]; exact (hm_un (hrI 25 2 (by decide) (by decide) (by decide))).trans h410
                have h441 : f413 ((r 26)) = some (eI Γ 6 ph) := by rw [ef413]; exact (hm_un (hrI 26 2 (by decide) (by decide) (by decide))).trans h411
                have h442 : f413 ((r 27)) = some (eI Γ 6 pg) := by rw [ef413]; exact (hm_un (hrI 27 2 (by decide) (by decide) (by decide))).trans h412
                refine lv_aload_n hx hb dX8_push_184 rfl (lv_at hl 2 rfl) ?_
                refine gf_X8_23 hx hb hts hown hK hH h415 rfl dX8_push_185 ?_
                refine lv_iload_n hx hb dX8_push_188 rfl (lv_at hl 3 rfl) ?_
                refine lv_dup2_11 hx hb dX8_push_189 rfl rfl ?_
                refine hm_iald hx hb hK hH h419 (vp_in_nI hi8 (by decide)) dX8_push_190 ?_
                refine lv_topi (fun v443 ev443 => ?_)
                replace ev443 : v443 = (gs i).2.2.2.1 := ev443.trans (by show (gs (nI i).toNatClampNeg).2.2.2.1 = _; rw [nI_clamp (n := i) (by omega)])
                subst ev443
                refine lv_iload hx hb dX8_push_191 (lv_at hl 0 rfl) ?_
                refine lv_iadd hx hb dX8_push_193 ?_
                refine lv_topi (fun v444 ev444 => ?_)
                replace ev444 : v444 = ((gs i).2.2.2.1 + nI (gainT (gs i).2.1 to)) := ev444.trans (rfl)
                subst ev444
                refine hm_iast hx hb hK hO hS hH h419 (vp_in_nI hi8 (by decide)) dX8_push_194 (fun H locs hH hS => ?_)
                rw [nI_clamp (n := i) (by omega)] at hH
                obtain ⟨f445, ef445⟩ : ∃ zz_, zz_ = hm_up f413 ((r 4)) (eI Γ 8 (upd (fun i => (gs i).2.2.2.1) i (((gs i).2.2.2.1 + nI (gainT (gs i).2.1 to))))) := ⟨_, rfl⟩
                have hH : hm_H Γ f445 H := by rw [ef445]; exact hH
                have h446 : f445 ((r 4)) = some (eI Γ 8 (upd (fun i => (gs i).2.2.2.1) i (((gs i).2.2.2.1 + nI (gainT (gs i).2.1 to))))) := by rw [ef445]; exact hm_us
                have h447 : f445 m0 = some (eM r 0 (nI np) (nI ng) (nI nt) (nI kp) (nI rr) ck lim (nI (nxt (nxt (gs i).2.2.1))) (nI (gainT (gs i).2.1 to)) hih mih fh msh msm mso sp rf) := by rw [ef445]; exact (hm_un (hm_ne h415 h419 (fun q => by cases q))).trans h415
                have h448 : f445 ((r 0)) = some (eI Γ 4 mon) := by rw [ef445]; exact (hm_un (hrI 0 4 (by decide) (by decide) (by decide))).trans h416
                have h449 : f445 ((r 1)) = some (eJ Γ 8 (vp_updL (fun i => b4 (gs i).2.1) i (b4 (drawT (pushT (gs i).2.1 to) (gs i).2.2.1)))) := by rw [ef445]; exact (hm_un (hrI 1 4 (by decide) (by decide) (by decide))).trans h417
                have h450 : f445 ((r 2)) = some (eI Γ 8 (upd (fun i => nI (gs i).2.2.1) i (nI (nxt (nxt (gs i).2.2.1))))) := by rw [ef445]; exact (hm_un (hrI 2 4 (by decide) (by decide) (by decide))).trans h414
                have h451 : f445 ((r 3)) = some (eI Γ 8 (fun i => nI (gs i).1)) := by rw [ef445]; exact (hm_un (hrI 3 4 (by decide) (by decide) (by decide))).trans h418
                have h452 : f445 ((r 5)) = some (eI Γ 8 (fun i => (gs i).2.2.2.2.1)) := by rw [ef445]; exact (hm_un (hrI 5 4 (by decide) (by decide) (by decide))).trans h420
                have h453 : f445 ((r 6)) = some (eI Γ 8 (upd (fun i => (gs i).2.2.2.2.2.1) i 0)) := by rw [ef445]; exact (hm_un (hrI 6 4 (by decide) (by decide) (by decide))).trans h421
                have h454 : f445 ((r 7)) = some (eI Γ 8 (fun i => (gs i).2.2.2.2.2.2.1)) := by rw [ef445]; exact (hm_un (hrI 7 4 (by decide) (by decide) (by decide))).trans h422
                have h455 : f445 ((r 8)) = some (eI Γ 8 (fun i => (gs i).2.2.2.2.2.2.2.1)) := by rw [ef445]; exact (hm_un (hrI 8 4 (by decide) (by decide) (by decide))).trans h423
                have h456 : f445 ((r 9)) = some (eZ Γ 8 (fun i => bI (gs i).2.2.2.2.2.2.2.2)) := by rw [ef445]; exact (hm_un (hrI 9 4 (by decide) (by decide) (by decide))).trans h424
                have h457 : f445 ((r 10)) = some (eJ Γ 60 (fun i => b4 (ts i).2.1)) := by rw [ef445]; exact (hm_un (hrI 10 4 (by decide) (by decide) (by decide))).trans h425
                have h458 : f445 ((r 11)) = some (eI Γ 60 (fun i => nI (ts i).2.2.1)) := by rw [ef445]; exact (hm_un (hrI 11 4 (by decide) (by decide) (by decide))).trans h426
                have h459 : f445 ((r 12)) = some (eI Γ 60 (fun i => nI (ts i).1)) := by rw [ef445]; exact (hm_un (hrI 12 4 (by decide) (by decide) (by decide))).trans h427
                have h460 : f445 ((r 13)) = some (eI Γ 60 (fun i => (ts i).2.2.2)) := by rw [ef445]; exact (hm_un (hrI 13 4 (by decide) (by decide) (by decide))).trans h428
                have h461 : f445 ((r 14)) = some (eJ Γ 64 (fun j => (K j).1)) := by rw [ef445]; exact (hm_un (hrI 14 4 (by decide) (by decide) (by decide))).trans h429
                have h462 : f445 ((r 15)) = some (eI Γ 64 (fun j => (K j).2.1)) := by rw [ef445]; exact (hm_un (hrI 15 4 (by decide) (by decide) (by decide))).trans h430
                have h463 : f445 ((r 16)) = some (eI Γ 64 (fun j => (K j).2.2.1)) := by rw [ef445]; exact (hm_un (hrI 16 4 (by decide) (by decide) (by decide))).trans h431
                have h464 : f445 ((r 17)) = some (eI Γ 64 (fun j => (K j).2.2.2.1)) := by rw [ef445]; exact (hm_un (hrI 17 4 (by decide) (by decide) (by decide))).trans h432
                have h465 : f445 ((r 18)) = some (eI Γ 64 (fun j => (K j).2.2.2.2.1)) := by rw [ef445]; exact (hm_un (hrI 18 4 (by decide) (by decide) (by decide))).trans h433
                have h466 : f445 ((r 19)) = some (eI Γ 64 (fun j => (K j).2.2.2.2.2.1)) := by rw [ef445]; exact (hm_un (hrI 19 4 (by decide) (by decide) (by decide))).trans h434
                have h467 : f445 ((r 20)) = some (eI Γ 64 (fun j => (K j).2.2.2.2.2.2)) := by rw [ef445]; exact (hm_un (hrI 20 4 (by decide) (by decide) (by decide))).trans h435
                have h468 : f445 ((r 21)) = some (eJ Γ 6 pb) := by rw [ef445]; exact (hm_un (hrI 21 4 (by decide) (by decide) (by decide))).trans h436
                have h469 : f445 ((r 22)) = some (eI Γ 6 pz) := by rw [ef445]; exact (hm_un (hrI 22 4 (by decide) (by decide) (by decide))).trans h437
                have h470 : f445 ((r 23)) = some (eI Γ 6 pd) := by rw [ef445]; exact (hm_un (hrI 23 4 (by decide) (by decide) (by decide))).trans h438
                have h471 : f445 ((r 24)) = some (eI Γ 6 pn) := by rw [ef445]; exact (hm_un (hrI 24 4 (by decide) (by decide) (by decide))).trans h439
                have h472 : f445 ((r 25)) = some (eI Γ 6 pe) := by rw [ef445]; exact (hm_un (hrI 25 4 (by decide) (by decide) (by decide))).trans h440
                have h473 : f445 ((r 26)) = some (eI Γ 6 ph) := by rw [ef445]; exact (hm_un (hrI 26 4 (by decide) (by decide) (by decide))).trans h441
                have h474 : f445 ((r 27)) = some (eI Γ 6 pg) := by rw [ef445]; exact (hm_un (hrI 27 4 (by decide) (by decide) (by decide))).trans h442
                refine lv_aload_n hx hb dX8_push_195 rfl (lv_at hl 2 rfl) ?_
                refine gf_X8_26 hx hb hts hown hK hH h447 rfl dX8_push_196 ?_
                refine lv_iload_n hx hb dX8_push_199 rfl (lv_at hl 3 rfl) ?_
                refine lv_dup2_11 hx hb dX8_push_200 rfl rfl ?_
                refine hm_iald hx hb hK hH h452 (vp_in_nI hi8 (by decide)) dX8_push_201 ?_
                refine lv_topi (fun v475 ev475 => ?_)
                replace ev475 : v475 = (gs i).2.2.2.2.1 := ev475.trans (by show (gs (nI i).toNatClampNeg).2.2.2.2.1 = _; rw [nI_clamp (n := i) (by omega)])
                subst ev475
                refine lv_iconst (v := 1) hx hb dX8_push_202 (by decide) ?_
                refine lv_iadd hx hb dX8_push_203 ?_
                refine lv_topi (fun v476 ev476 => ?_)
                replace ev476 : v476 = ((gs i).2.2.2.2.1 + 1) := ev476.trans (rfl)
                subst ev476
                refine hm_iast hx hb hK hO hS hH h452 (vp_in_nI hi8 (by decide)) dX8_push_204 (fun H locs hH hS => ?_)
                rw [nI_clamp (n := i) (by omega)] at hH
                obtain ⟨f477, ef477⟩ : ∃ zz_, zz_ = hm_up f445 ((r 5)) (eI Γ 8 (upd (fun i => (gs i).2.2.2.2.1) i (((gs i).2.2.2.2.1 + 1)))) := ⟨_, rfl⟩
                have hH : hm_H Γ f477 H := by rw [ef477]; exact hH
                have h478 : f477 ((r 5)) = some (eI Γ 8 (upd (fun i => (gs i).2.2.2.2.1) i (((gs i).2.2.2.2.1 + 1)))) := by rw [ef477]; exact hm_us
                have h479 : f477 m0 = some (eM r 0 (nI np) (nI ng) (nI nt) (nI kp) (nI rr) ck lim (nI (nxt (nxt (gs i).2.2.1))) (nI (gainT (gs i).2.1 to)) hih mih fh msh msm mso sp rf) := by rw [ef477]; exact (hm_un (hm_ne h447 h452 (fun q => by cases q))).trans h447
                have h480 : f477 ((r 0)) = some (eI Γ 4 mon) := by rw [ef477]; exact (hm_un (hrI 0 5 (by decide) (by decide) (by decide))).trans h448
                have h481 : f477 ((r 1)) = some (eJ Γ 8 (vp_updL (fun i => b4 (gs i).2.1) i (b4 (drawT (pushT (gs i).2.1 to) (gs i).2.2.1)))) := by rw [ef477]; exact (hm_un (hrI 1 5 (by decide) (by decide) (by decide))).trans h449
                have h482 : f477 ((r 2)) = some (eI Γ 8 (upd (fun i => nI (gs i).2.2.1) i (nI (nxt (nxt (gs i).2.2.1))))) := by rw [ef477]; exact (hm_un (hrI 2 5 (by decide) (by decide) (by decide))).trans h450
                have h483 : f477 ((r 3)) = some (eI Γ 8 (fun i => nI (gs i).1)) := by rw [ef477]; exact (hm_un (hrI 3 5 (by decide) (by decide) (by decide))).trans h451
                have h484 : f477 ((r 4)) = some (eI Γ 8 (upd (fun i => (gs i).2.2.2.1) i (((gs i).2.2.2.1 + nI (gainT (gs i).2.1 to))))) := by rw [ef477]; exact (hm_un (hrI 4 5 (by decide) (by decide) (by decide))).trans h446
                have h485 : f477 ((r 6)) = some (eI Γ 8 (upd (fun i => (gs i).2.2.2.2.2.1) i 0)) := by rw [ef477]; exact (hm_un (hrI 6 5 (by decide) (by decide) (by decide))).trans h453
                have h486 : f477 ((r 7)) = some (eI Γ 8 (fun i => (gs i).2.2.2.2.2.2.1)) := by rw [ef477]; exact (hm_un (hrI 7 5 (by decide) (by decide) (by decide))).trans h454
                have h487 : f477 ((r 8)) = some (eI Γ 8 (fun i => (gs i).2.2.2.2.2.2.2.1)) := by rw [ef477]; exact (hm_un (hrI 8 5 (by decide) (by decide) (by decide))).trans h455
                have h488 : f477 ((r 9)) = some (eZ Γ 8 (fun i => bI (gs i).2.2.2.2.2.2.2.2)) := by rw [ef477]; exact (hm_un (hrI 9 5 (by decide) (by decide) (by decide))).trans h456
                have h489 : f477 ((r 10)) = some (eJ Γ 60 (fun i => b4 (ts i).2.1)) := by rw [ef477]; exact (hm_un (hrI 10 5 (by decide) (by decide) (by decide))).trans h457
                have h490 : f477 ((r 11)) = some (eI Γ 60 (fun i => nI (ts i).2.2.1)) := by rw [ef477]; exact (hm_un (hrI 11 5 (by decide) (by decide) (by decide))).trans h458
                have h491 : f477 ((r 12)) = some (eI Γ 60 (fun i => nI (ts i).1)) := by rw [ef477]; exact (hm_un (hrI 12 5 (by decide) (by decide) (by decide))).trans h459
                have h492 : f477 ((r 13)) = some (eI Γ 60 (fun i => (ts i).2.2.2)) := by rw [ef477]; exact (hm_un (hrI 13 5 (by decide) (by decide) (by decide))).trans h460
                have h493 : f477 ((r 14)) = some (eJ Γ 64 (fun j => (K j).1)) := by rw [ef477]; exact (hm_un (hrI 14 5 (by decide) (by decide) (by decide))).trans h461
                have h494 : f477 ((r 15)) = some (eI Γ 64 (fun j => (K j).2.1)) := by rw [ef477]; exact (hm_un (hrI 15 5 (by decide) (by decide) (by decide))).trans h462
                have h495 : f477 ((r 16)) = some (eI Γ 64 (fun j => (K j).2.2.1)) := by rw [ef477]; exact (hm_un (hrI 16 5 (by decide) (by decide) (by decide))).trans h463
                have h496 : f477 ((r 17)) = some (eI Γ 64 (fun j => (K j).2.2.2.1)) := by rw [ef477]; exact (hm_un (hrI 17 5 (by decide) (by decide) (by decide))).trans h464
                have h497 : f477 ((r 18)) = some (eI Γ 64 (fun j => (K j).2.2.2.2.1)) := by rw [ef477]; exact (hm_un (hrI 18 5 (by decide) (by decide) (by decide))).trans h465
                have h498 : f477 ((r 19)) = some (eI Γ 64 (fun j => (K j).2.2.2.2.2.1)) := by rw [ef477]; exact (hm_un (hrI 19 5 (by decide) (by decide) (by decide))).trans h466
                have h499 : f477 ((r 20)) = some (eI Γ 64 (fun j => (K j).2.2.2.2.2.2)) := by rw [ef477]; exact (hm_un (hrI 20 5 (by decide) (by decide) (by decide))).trans h467
                have h500 : f477 ((r 21)) = some (eJ Γ 6 pb) := by rw [ef477]; exact (hm_un (hrI 21 5 (by decide) (by decide) (by decide))).trans h468
                have h501 : f477 ((r 22)) = some (eI Γ 6 pz) := by rw [ef477]; exact (hm_un (hrI 22 5 (by decide) (by decide) (by decide))).trans h469
                have h502 : f477 ((r 23)) = some (eI Γ 6 pd) := by rw [ef477]; exact (hm_un (hrI 23 5 (by decide) (by decide) (by decide))).trans h470
                have h503 : f477 ((r 24)) = some (eI Γ 6 pn) := by rw [ef477]; exact (hm_un (hrI 24 5 (by decide) (by decide) (by decide))).trans h471
                have h504 : f477 ((r 25)) = some (eI Γ 6 pe) := by rw [ef477]; exact (hm_un (hrI 25 5 (by decide) (by decide) (by decide))).trans h472
                have h505 : f477 ((r 26)) = some (eI Γ 6 ph) := by rw [ef477]; exact (hm_un (hrI 26 5 (by decide) (by decide) (by decide))).trans h473
                have h506 : f477 ((r 27)) = some (eI Γ 6 pg) := by rw [ef477]; exact (hm_un (hrI 27 5 (by decide) (by decide) (by decide))).trans h474
                refine lv_iload hx hb dX8_push_205 (lv_at hl 0 rfl) ?_
                have hfr9 : hm_fr (mS m0 r) f f477 := by
                  rw [ef477, ef445, ef413, ef383, efn354, efn324, ef290, efn255, efn192, efn126, efn1]
                  exact (((((((((((hm_fr.rf (S := mS m0 r)).up mS_0).up mS_0).up mS_0).up mS_0).up (mS_r (by decide))).up mS_0).up mS_0).up (mS_r (by decide))).up (mS_r (by decide))).up (mS_r (by decide))).up (mS_r (by decide))
                exact hm_iret hx hb hr hlocks hS hH (⟨Or.inl ⟨by rw [hb1]; (try rw [hix]); rw [hb125]; (try rw [hit]); rw [hb254]; rfl, by rw [hix, hit], MW.mk h479 ⟨⟨h493, h494, h495, h496, h497, h498, h499⟩, ⟨_, _, _, _, _, _, _, h500, h501, h502, h503, h504, h505, h506⟩, h480, ⟨(by rw [hix, hit, ← eFO]; exact h481.trans (congrArg some (congrArg (eJ Γ 8) (updL_fun (fun x : GS => b4 (x).2.1) gs i ((gs i).1, drawT (pushT (gs i).2.1 to) (gs i).2.2.1, nxt (nxt (gs i).2.2.1), (gs i).2.2.2.1 + nI (gainT (gs i).2.1 to), (gs i).2.2.2.2.1 + 1, (if FO then (gs i).2.2.2.2.2.1 + 1 else 0), mxI (gs i).2.2.2.2.2.2.1 (if FO then (gs i).2.2.2.2.2.1 + 1 else 0), (gs i).2.2.2.2.2.2.2.1, (gs i).2.2.2.2.2.2.2.2))))), (by rw [hix, hit, ← eFO]; exact h482.trans (congrArg some (congrArg (eI Γ 8) (upd_fun (fun x : GS => nI (x).2.2.1) gs i ((gs i).1, drawT (pushT (gs i).2.1 to) (gs i).2.2.1, nxt (nxt (gs i).2.2.1), (gs i).2.2.2.1 + nI (gainT (gs i).2.1 to), (gs i).2.2.2.2.1 + 1, (if FO then (gs i).2.2.2.2.2.1 + 1 else 0), mxI (gs i).2.2.2.2.2.2.1 (if FO then (gs i).2.2.2.2.2.1 + 1 else 0), (gs i).2.2.2.2.2.2.2.1, (gs i).2.2.2.2.2.2.2.2))))), (by rw [hix, hit, ← eFO]; exact h483.trans (congrArg some (congrArg (eI Γ 8) (gset_p (fun x : GS => nI (x).1) (gs := gs) (i := i) (y := ((gs i).1, drawT (pushT (gs i).2.1 to) (gs i).2.2.1, nxt (nxt (gs i).2.2.1), (gs i).2.2.2.1 + nI (gainT (gs i).2.1 to), (gs i).2.2.2.2.1 + 1, (if FO then (gs i).2.2.2.2.2.1 + 1 else 0), mxI (gs i).2.2.2.2.2.2.1 (if FO then (gs i).2.2.2.2.2.1 + 1 else 0), (gs i).2.2.2.2.2.2.2.1, (gs i).2.2.2.2.2.2.2.2)) rfl)))), (by rw [hix, hit, ← eFO]; exact h484.trans (congrArg some (congrArg (eI Γ 8) (upd_fun (fun x : GS => (x).2.2.2.1) gs i ((gs i).1, drawT (pushT (gs i).2.1 to) (gs i).2.2.1, nxt (nxt (gs i).2.2.1), (gs i).2.2.2.1 + nI (gainT (gs i).2.1 to), (gs i).2.2.2.2.1 + 1, (if FO then (gs i).2.2.2.2.2.1 + 1 else 0), mxI (gs i).2.2.2.2.2.2.1 (if FO then (gs i).2.2.2.2.2.1 + 1 else 0), (gs i).2.2.2.2.2.2.2.1, (gs i).2.2.2.2.2.2.2.2))))), (by rw [hix, hit, ← eFO]; exact h478.trans (congrArg some (congrArg (eI Γ 8) (upd_fun (fun x : GS => (x).2.2.2.2.1) gs i ((gs i).1, drawT (pushT (gs i).2.1 to) (gs i).2.2.1, nxt (nxt (gs i).2.2.1), (gs i).2.2.2.1 + nI (gainT (gs i).2.1 to), (gs i).2.2.2.2.1 + 1, (if FO then (gs i).2.2.2.2.2.1 + 1 else 0), mxI (gs i).2.2.2.2.2.2.1 (if FO then (gs i).2.2.2.2.2.1 + 1 else 0), (gs i).2.2.2.2.2.2.2.1, (gs i).2.2.2.2.2.2.2.2))))), (by rw [hix, hit, ← eFO]; have z_ := h485; rw [← hrw] at z_; exact z_.trans (congrArg some (congrArg (eI Γ 8) (upd_fun (fun x : GS => (x).2.2.2.2.2.1) gs i ((gs i).1, drawT (pushT (gs i).2.1 to) (gs i).2.2.1, nxt (nxt (gs i).2.2.1), (gs i).2.2.2.1 + nI (gainT (gs i).2.1 to), (gs i).2.2.2.2.1 + 1, (if FO then (gs i).2.2.2.2.2.1 + 1 else 0), mxI (gs i).2.2.2.2.2.2.1 (if FO then (gs i).2.2.2.2.2.1 + 1 else 0), (gs i).2.2.2.2.2.2.2.1, (gs i).2.2.2.2.2.2.2.2))))), (by rw [hix, hit, ← eFO]; exact h486.trans (congrArg some (congrArg (eI Γ 8) (gset_p (fun x : GS => (x).2.2.2.2.2.2.1) (gs := gs) (i := i) (y := ((gs i).1, drawT (pushT (gs i).2.1 to) (gs i).2.2.1, nxt (nxt (gs i).2.2.1), (gs i).2.2.2.1 + nI (gainT (gs i).2.1 to), (gs i).2.2.2.2.1 + 1, (if FO then (gs i).2.2.2.2.2.1 + 1 else 0), mxI (gs i).2.2.2.2.2.2.1 (if FO then (gs i).2.2.2.2.2.1 + 1 else 0), (gs i).2.2.2.2.2.2.2.1, (gs i).2.2.2.2.2.2.2.2)) hmx)))), (by rw [hix, hit, ← eFO]; exact h487.trans (congrArg some (congrArg (eI Γ 8) (gset_p (fun x : GS => (x).2.2.2.2.2.2.2.1) (gs := gs) (i := i) (y := ((gs i).1, drawT (pushT (gs i).2.1 to) (gs i).2.2.1, nxt (nxt (gs i).2.2.1), (gs i).2.2.2.1 + nI (gainT (gs i).2.1 to), (gs i).2.2.2.2.1 + 1, (if FO then (gs i).2.2.2.2.2.1 + 1 else 0), mxI (gs i).2.2.2.2.2.2.1 (if FO then (gs i).2.2.2.2.2.1 + 1 else 0), (gs i).2.2.2.2.2.2.2.1, (gs i).2.2.2.2.2.2.2.2)) rfl)))), (by rw [hix, hit, ← eFO]; exact h488.trans (congrArg some (congrArg (eZ Γ 8) (gset_p (fun x : GS => bI (x).2.2.2.2.2.2.2.2) (gs := gs) (i := i) (y := ((gs i).1, drawT (pushT (gs i).2.1 to) (gs i).2.2.1, nxt (nxt (gs i).2.2.1), (gs i).2.2.2.1 + nI (gainT (gs i).2.1 to), (gs i).2.2.2.2.1 + 1, (if FO then (gs i).2.2.2.2.2.1 + 1 else 0), mxI (gs i).2.2.2.2.2.2.1 (if FO then (gs i).2.2.2.2.2.1 + 1 else 0), (gs i).2.2.2.2.2.2.2.1, (gs i).2.2.2.2.2.2.2.2)) rfl))))⟩, h489, h490, h491, h492⟩⟩, hfr9.k⟩) (Nat.le_of_ble_eq_true rfl) (Nat.le_of_ble_eq_true rfl) dX8_push_207
              · refine lv_aload_n hx hb dX8_push_127 rfl (lv_at hl 0 rfl) ?_
                refine gf_X8_32 hx hb hts hown hK hH h292 rfl dX8_push_128 ?_
                refine lv_iload_n hx hb dX8_push_131 rfl (lv_at hl 1 rfl) ?_
                refine lv_aload_n hx hb dX8_push_132 rfl (lv_at hl 0 rfl) ?_
                refine gf_X8_29 hx hb hts hown hK hH h292 rfl dX8_push_133 ?_
                refine lv_iload_n hx hb dX8_push_136 rfl (lv_at hl 1 rfl) ?_
                refine hm_iald hx hb hK hH h291 (vp_in_nI hi8 (by decide)) dX8_push_137 ?_
                refine lv_topi (fun v507 ev507 => ?_)
                replace ev507 : v507 = ((if FO = true then (gs i).2.2.2.2.2.1 + 1 else 0)) := ev507.trans (by show upd _ i _ (nI i).toNatClampNeg = _; rw [nI_clamp (n := i) (by omega), hrw]; exact upd_s)
                subst ev507
                refine hm_iast hx hb hK hO hS hH h299 (vp_in_nI hi8 (by decide)) dX8_push_138 (fun H locs hH hS => ?_)
                rw [nI_clamp (n := i) (by omega)] at hH
                obtain ⟨f508, ef508⟩ : ∃ zz_, zz_ = hm_up f290 ((r 7)) (eI Γ 8 (upd (fun i => (gs i).2.2.2.2.2.2.1) i (((if FO = true then (gs i).2.2.2.2.2.1 + 1 else 0))))) := ⟨_, rfl⟩
                have hH : hm_H Γ f508 H := by rw [ef508]; exact hH
                have h509 : f508 ((r 7)) = some (eI Γ 8 (upd (fun i => (gs i).2.2.2.2.2.2.1) i (((if FO = true then (gs i).2.2.2.2.2.1 + 1 else 0))))) := by rw [ef508]; exact hm_us
                have h510 : f508 m0 = some (eM r 0 (nI np) (nI ng) (nI nt) (nI kp) (nI rr) ck lim dz (nI (gainT (gs i).2.1 to)) hih mih fh msh msm mso sp rf) := by rw [ef508]; exact (hm_un (hm_ne h292 h299 (fun q => by cases q))).trans h292
                have h511 : f508 ((r 0)) = some (eI Γ 4 mon) := by rw [ef508]; exact (hm_un (hrI 0 7 (by decide) (by decide) (by decide))).trans h293
                have h512 : f508 ((r 1)) = some (eJ Γ 8 (fun i => b4 (gs i).2.1)) := by rw [ef508]; exact (hm_un (hrI 1 7 (by decide) (by decide) (by decide))).trans h294
                have h513 : f508 ((r 2)) = some (eI Γ 8 (fun i => nI (gs i).2.2.1)) := by rw [ef508]; exact (hm_un (hrI 2 7 (by decide) (by decide) (by decide))).trans h295
                have h514 : f508 ((r 3)) = some (eI Γ 8 (fun i => nI (gs i).1)) := by rw [ef508]; exact (hm_un (hrI 3 7 (by decide) (by decide) (by decide))).trans h296
                have h515 : f508 ((r 4)) = some (eI Γ 8 (fun i => (gs i).2.2.2.1)) := by rw [ef508]; exact (hm_un (hrI 4 7 (by decide) (by decide) (by decide))).trans h297
                have h516 : f508 ((r 5)) = some (eI Γ 8 (fun i => (gs i).2.2.2.2.1)) := by rw [ef508]; exact (hm_un (hrI 5 7 (by decide) (by decide) (by decide))).trans h298
                have h517 : f508 ((r 6)) = some (eI Γ 8 (upd (fun i => (gs i).2.2.2.2.2.1) i 0)) := by rw [ef508]; exact (hm_un (hrI 6 7 (by decide) (by decide) (by decide))).trans h291
                have h518 : f508 ((r 8)) = some (eI Γ 8 (fun i => (gs i).2.2.2.2.2.2.2.1)) := by rw [ef508]; exact (hm_un (hrI 8 7 (by decide) (by decide) (by decide))).trans h300
                have h519 : f508 ((r 9)) = some (eZ Γ 8 (fun i => bI (gs i).2.2.2.2.2.2.2.2)) := by rw [ef508]; exact (hm_un (hrI 9 7 (by decide) (by decide) (by decide))).trans h301
                have h520 : f508 ((r 10)) = some (eJ Γ 60 (fun i => b4 (ts i).2.1)) := by rw [ef508]; exact (hm_un (hrI 10 7 (by decide) (by decide) (by decide))).trans h302
                have h521 : f508 ((r 11)) = some (eI Γ 60 (fun i => nI (ts i).2.2.1)) := by rw [ef508]; exact (hm_un (hrI 11 7 (by decide) (by decide) (by decide))).trans h303
                have h522 : f508 ((r 12)) = some (eI Γ 60 (fun i => nI (ts i).1)) := by rw [ef508]; exact (hm_un (hrI 12 7 (by decide) (by decide) (by decide))).trans h304
                have h523 : f508 ((r 13)) = some (eI Γ 60 (fun i => (ts i).2.2.2)) := by rw [ef508]; exact (hm_un (hrI 13 7 (by decide) (by decide) (by decide))).trans h305
                have h524 : f508 ((r 14)) = some (eJ Γ 64 (fun j => (K j).1)) := by rw [ef508]; exact (hm_un (hrI 14 7 (by decide) (by decide) (by decide))).trans h306
                have h525 : f508 ((r 15)) = some (eI Γ 64 (fun j => (K j).2.1)) := by rw [ef508]; exact (hm_un (hrI 15 7 (by decide) (by decide) (by decide))).trans h307
                have h526 : f508 ((r 16)) = some (eI Γ 64 (fun j => (K j).2.2.1)) := by rw [ef508]; exact (hm_un (hrI 16 7 (by decide) (by decide) (by decide))).trans h308
                have h527 : f508 ((r 17)) = some (eI Γ 64 (fun j => (K j).2.2.2.1)) := by rw [ef508]; exact (hm_un (hrI 17 7 (by decide) (by decide) (by decide))).trans h309
                have h528 : f508 ((r 18)) = some (eI Γ 64 (fun j => (K j).2.2.2.2.1)) := by rw [ef508]; exact (hm_un (hrI 18 7 (by decide) (by decide) (by decide))).trans h310
                have h529 : f508 ((r 19)) = some (eI Γ 64 (fun j => (K j).2.2.2.2.2.1)) := by rw [ef508]; exact (hm_un (hrI 19 7 (by decide) (by decide) (by decide))).trans h311
                have h530 : f508 ((r 20)) = some (eI Γ 64 (fun j => (K j).2.2.2.2.2.2)) := by rw [ef508]; exact (hm_un (hrI 20 7 (by decide) (by decide) (by decide))).trans h312
                have h531 : f508 ((r 21)) = some (eJ Γ 6 pb) := by rw [ef508]; exact (hm_un (hrI 21 7 (by decide) (by decide) (by decide))).trans h313
                have h532 : f508 ((r 22)) = some (eI Γ 6 pz) := by rw [ef508]; exact (hm_un (hrI 22 7 (by decide) (by decide) (by decide))).trans h314
                have h533 : f508 ((r 23)) = some (eI Γ 6 pd) := by rw [ef508]; exact (hm_un (hrI 23 7 (by decide) (by decide) (by decide))).trans h315
                have h534 : f508 ((r 24)) = some (eI Γ 6 pn) := by rw [ef508]; exact (hm_un (hrI 24 7 (by decide) (by decide) (by decide))).trans h316
                have h535 : f508 ((r 25)) = some (eI Γ 6 pe) := by rw [ef508]; exact (hm_un (hrI 25 7 (by decide) (by decide) (by decide))).trans h317
                have h536 : f508 ((r 26)) = some (eI Γ 6 ph) := by rw [ef508]; exact (hm_un (hrI 26 7 (by decide) (by decide) (by decide))).trans h318
                have h537 : f508 ((r 27)) = some (eI Γ 6 pg) := by rw [ef508]; exact (hm_un (hrI 27 7 (by decide) (by decide) (by decide))).trans h319
                have hmx : mxI (gs i).2.2.2.2.2.2.1 (if FO = true then (gs i).2.2.2.2.2.1 + 1 else 0) = (if FO = true then (gs i).2.2.2.2.2.1 + 1 else 0) := by unfold mxI; rw [if_pos (Int32.not_le.mp c322)]
                refine lv_aload_n hx hb dX8_push_139 rfl (lv_at hl 0 rfl) ?_
                refine lv_aload_n hx hb dX8_push_140 rfl (lv_at hl 0 rfl) ?_
                refine gf_X8_13 hx hb hts hown hK hH h510 rfl dX8_push_141 ?_
                refine lv_iload_n hx hb dX8_push_144 rfl (lv_at hl 1 rfl) ?_
                refine hm_lald hx hb hK hH h512 (vp_in_nI hi8 (by decide)) dX8_push_145 ?_
                refine lv_topl (fun v538 ev538 => ?_)
                replace ev538 : v538 = b4 (gs i).2.1 := ev538.trans (by show b4 (gs (nI i).toNatClampNeg).2.1 = _; rw [nI_clamp (n := i) (by omega)])
                subst ev538
                refine lv_iload_n hx hb dX8_push_146 rfl (lv_at hl 2 rfl) ?_
                refine hm_callV (rest := []) (k := 2) q5_154 q5_156 q1_9 q5_157 q0_21 rfl nm_X8_pushed rfl hx hb hml hown hts hK hO hS hH hl.1 h510 (c_X8_pushed Γ l m0 r 0 (nI np) (nI ng) (nI nt) (nI kp) (nI rr) ck lim dz (nI (gainT (gs i).2.1 to)) hih mih fh msh msm mso sp rf (gs i).2.1 to f508 h510 ht15 hto) ⟨Nat.le_of_ble_eq_true rfl, Nat.le_of_ble_eq_true rfl⟩ ⟨Nat.le_of_ble_eq_true rfl, Nat.le_of_ble_eq_true rfl⟩ rfl (Nat.le_of_ble_eq_true rfl) dX8_push_147 (fun v_ fn539 H locs hp_ hH hS => ?_)
                obtain ⟨rfl, efn539⟩ := hp_
                refine W.eq (g2 := F0 m 150 ls [.long (b4 (pushT (gs i).2.1 to))]) rfl ?_
                have hmfn539 : fn539 m0 = some (eM r 0 (nI np) (nI ng) (nI nt) (nI kp) (nI rr) ck lim dz (nI (gainT (gs i).2.1 to)) hih mih fh msh msm mso sp rf) := by rw [efn539]; exact hm_us
                have h540 : fn539 ((r 0)) = some (eI Γ 4 mon) := by rw [efn539]; exact (hm_un (hm_ne h511 h510 (fun q => by cases q))).trans h511
                have h541 : fn539 ((r 1)) = some (eJ Γ 8 (fun i => b4 (gs i).2.1)) := by rw [efn539]; exact (hm_un (hm_ne h512 h510 (fun q => by cases q))).trans h512
                have h542 : fn539 ((r 2)) = some (eI Γ 8 (fun i => nI (gs i).2.2.1)) := by rw [efn539]; exact (hm_un (hm_ne h513 h510 (fun q => by cases q))).trans h513
                have h543 : fn539 ((r 3)) = some (eI Γ 8 (fun i => nI (gs i).1)) := by rw [efn539]; exact (hm_un (hm_ne h514 h510 (fun q => by cases q))).trans h514
                have h544 : fn539 ((r 4)) = some (eI Γ 8 (fun i => (gs i).2.2.2.1)) := by rw [efn539]; exact (hm_un (hm_ne h515 h510 (fun q => by cases q))).trans h515
                have h545 : fn539 ((r 5)) = some (eI Γ 8 (fun i => (gs i).2.2.2.2.1)) := by rw [efn539]; exact (hm_un (hm_ne h516 h510 (fun q => by cases q))).trans h516
                have h546 : fn539 ((r 6)) = some (eI Γ 8 (upd (fun i => (gs i).2.2.2.2.2.1) i 0)) := by rw [efn539]; exact (hm_un (hm_ne h517 h510 (fun q => by cases q))).trans h517
                have h547 : fn539 ((r 7)) = some (eI Γ 8 (upd (fun i => (gs i).2.2.2.2.2.2.1) i (((if FO = true then (gs i).2.2.2.2.2.1 + 1 else 0))))) := by rw [efn539]; exact (hm_un (hm_ne h509 h510 (fun q => by cases q))).trans h509
                have h548 : fn539 ((r 8)) = some (eI Γ 8 (fun i => (gs i).2.2.2.2.2.2.2.1)) := by rw [efn539]; exact (hm_un (hm_ne h518 h510 (fun q => by cases q))).trans h518
                have h549 : fn539 ((r 9)) = some (eZ Γ 8 (fun i => bI (gs i).2.2.2.2.2.2.2.2)) := by rw [efn539]; exact (hm_un (hm_ne h519 h510 (fun q => by cases q))).trans h519
                have h550 : fn539 ((r 10)) = some (eJ Γ 60 (fun i => b4 (ts i).2.1)) := by rw [efn539]; exact (hm_un (hm_ne h520 h510 (fun q => by cases q))).trans h520
                have h551 : fn539 ((r 11)) = some (eI Γ 60 (fun i => nI (ts i).2.2.1)) := by rw [efn539]; exact (hm_un (hm_ne h521 h510 (fun q => by cases q))).trans h521
                have h552 : fn539 ((r 12)) = some (eI Γ 60 (fun i => nI (ts i).1)) := by rw [efn539]; exact (hm_un (hm_ne h522 h510 (fun q => by cases q))).trans h522
                have h553 : fn539 ((r 13)) = some (eI Γ 60 (fun i => (ts i).2.2.2)) := by rw [efn539]; exact (hm_un (hm_ne h523 h510 (fun q => by cases q))).trans h523
                have h554 : fn539 ((r 14)) = some (eJ Γ 64 (fun j => (K j).1)) := by rw [efn539]; exact (hm_un (hm_ne h524 h510 (fun q => by cases q))).trans h524
                have h555 : fn539 ((r 15)) = some (eI Γ 64 (fun j => (K j).2.1)) := by rw [efn539]; exact (hm_un (hm_ne h525 h510 (fun q => by cases q))).trans h525
                have h556 : fn539 ((r 16)) = some (eI Γ 64 (fun j => (K j).2.2.1)) := by rw [efn539]; exact (hm_un (hm_ne h526 h510 (fun q => by cases q))).trans h526
                have h557 : fn539 ((r 17)) = some (eI Γ 64 (fun j => (K j).2.2.2.1)) := by rw [efn539]; exact (hm_un (hm_ne h527 h510 (fun q => by cases q))).trans h527
                have h558 : fn539 ((r 18)) = some (eI Γ 64 (fun j => (K j).2.2.2.2.1)) := by rw [efn539]; exact (hm_un (hm_ne h528 h510 (fun q => by cases q))).trans h528
                have h559 : fn539 ((r 19)) = some (eI Γ 64 (fun j => (K j).2.2.2.2.2.1)) := by rw [efn539]; exact (hm_un (hm_ne h529 h510 (fun q => by cases q))).trans h529
                have h560 : fn539 ((r 20)) = some (eI Γ 64 (fun j => (K j).2.2.2.2.2.2)) := by rw [efn539]; exact (hm_un (hm_ne h530 h510 (fun q => by cases q))).trans h530
                have h561 : fn539 ((r 21)) = some (eJ Γ 6 pb) := by rw [efn539]; exact (hm_un (hm_ne h531 h510 (fun q => by cases q))).trans h531
                have h562 : fn539 ((r 22)) = some (eI Γ 6 pz) := by rw [efn539]; exact (hm_un (hm_ne h532 h510 (fun q => by cases q))).trans h532
                have h563 : fn539 ((r 23)) = some (eI Γ 6 pd) := by rw [efn539]; exact (hm_un (hm_ne h533 h510 (fun q => by cases q))).trans h533
                have h564 : fn539 ((r 24)) = some (eI Γ 6 pn) := by rw [efn539]; exact (hm_un (hm_ne h534 h510 (fun q => by cases q))).trans h534
                have h565 : fn539 ((r 25)) = some (eI Γ 6 pe) := by rw [efn539]; exact (hm_un (hm_ne h535 h510 (fun q => by cases q))).trans h535
                have h566 : fn539 ((r 26)) = some (eI Γ 6 ph) := by rw [efn539]; exact (hm_un (hm_ne h536 h510 (fun q => by cases q))).trans h536
                have h567 : fn539 ((r 27)) = some (eI Γ 6 pg) := by rw [efn539]; exact (hm_un (hm_ne h537 h510 (fun q => by cases q))).trans h537
                refine lv_lstore_n (lv' := [(3, .long (b4 (pushT (gs i).2.1 to))), (0, .ref m0), (1, .int (nI i)), (2, .int (nI to))]) hx hb dX8_push_150 rfl hl (by decide) rfl (fun ls hl => ?_)
                refine lv_aload_n hx hb dX8_push_151 rfl (lv_at hl 1 rfl) ?_
                refine gf_X8_113 hx hb hts hown hK hH hmfn539 rfl dX8_push_152 ?_
                refine lv_istore (lv' := [(5, .int (nI (gainT (gs i).2.1 to))), (3, .long (b4 (pushT (gs i).2.1 to))), (0, .ref m0), (1, .int (nI i)), (2, .int (nI to))]) hx hb dX8_push_155 hl (by decide) rfl (fun ls hl => ?_)
                refine lv_aload_n hx hb dX8_push_157 rfl (lv_at hl 2 rfl) ?_
                refine gf_X8_13 hx hb hts hown hK hH hmfn539 rfl dX8_push_158 ?_
                refine lv_iload_n hx hb dX8_push_161 rfl (lv_at hl 3 rfl) ?_
                refine lv_aload_n hx hb dX8_push_162 rfl (lv_at hl 2 rfl) ?_
                refine lv_lload_n hx hb dX8_push_163 rfl (lv_at hl 1 rfl) ?_
                refine lv_aload_n hx hb dX8_push_164 rfl (lv_at hl 2 rfl) ?_
                refine gf_X8_17 hx hb hts hown hK hH hmfn539 rfl dX8_push_165 ?_
                refine lv_iload_n hx hb dX8_push_168 rfl (lv_at hl 3 rfl) ?_
                refine hm_iald hx hb hK hH h542 (vp_in_nI hi8 (by decide)) dX8_push_169 ?_
                refine lv_topi (fun v568 ev568 => ?_)
                replace ev568 : v568 = nI (gs i).2.2.1 := ev568.trans (by show nI (gs (nI i).toNatClampNeg).2.2.1 = _; rw [nI_clamp (n := i) (by omega)])
                subst ev568
                refine hm_callV (rest := [.int (nI i), .ref ((r 1))]) (k := 2) q5_127 q5_129 q1_9 q5_130 q0_18 rfl nm_X8_drawn rfl hx hb hml hown hts hK hO hS hH hl.1 hmfn539 (c_X8_drawn Γ l m0 r 0 (nI np) (nI ng) (nI nt) (nI kp) (nI rr) ck lim dz (nI (gainT (gs i).2.1 to)) hih mih fh msh msm mso sp rf (pushT (gs i).2.1 to) (gs i).2.2.1 fn539 hmfn539 (pushT_lt ht15 hto) hgz (push_gap hto hgo1)) ⟨Nat.le_of_ble_eq_true rfl, Nat.le_of_ble_eq_true rfl⟩ ⟨Nat.le_of_ble_eq_true rfl, Nat.le_of_ble_eq_true rfl⟩ rfl (Nat.le_of_ble_eq_true rfl) dX8_push_170 (fun v_ fn569 H locs hp_ hH hS => ?_)
                obtain ⟨rfl, efn569⟩ := hp_
                refine W.eq (g2 := F0 m 173 ls [.long (b4 (drawT (pushT (gs i).2.1 to) (gs i).2.2.1)), .int (nI i), .ref ((r 1))]) rfl ?_
                have hmfn569 : fn569 m0 = some (eM r 0 (nI np) (nI ng) (nI nt) (nI kp) (nI rr) ck lim (nI (nxt (nxt (gs i).2.2.1))) (nI (gainT (gs i).2.1 to)) hih mih fh msh msm mso sp rf) := by rw [efn569]; exact hm_us
                have h570 : fn569 ((r 0)) = some (eI Γ 4 mon) := by rw [efn569]; exact (hm_un (hm_ne h540 hmfn539 (fun q => by cases q))).trans h540
                have h571 : fn569 ((r 1)) = some (eJ Γ 8 (fun i => b4 (gs i).2.1)) := by rw [efn569]; exact (hm_un (hm_ne h541 hmfn539 (fun q => by cases q))).trans h541
                have h572 : fn569 ((r 2)) = some (eI Γ 8 (fun i => nI (gs i).2.2.1)) := by rw [efn569]; exact (hm_un (hm_ne h542 hmfn539 (fun q => by cases q))).trans h542
                have h573 : fn569 ((r 3)) = some (eI Γ 8 (fun i => nI (gs i).1)) := by rw [efn569]; exact (hm_un (hm_ne h543 hmfn539 (fun q => by cases q))).trans h543
                have h574 : fn569 ((r 4)) = some (eI Γ 8 (fun i => (gs i).2.2.2.1)) := by rw [efn569]; exact (hm_un (hm_ne h544 hmfn539 (fun q => by cases q))).trans h544
                have h575 : fn569 ((r 5)) = some (eI Γ 8 (fun i => (gs i).2.2.2.2.1)) := by rw [efn569]; exact (hm_un (hm_ne h545 hmfn539 (fun q => by cases q))).trans h545
                have h576 : fn569 ((r 6)) = some (eI Γ 8 (upd (fun i => (gs i).2.2.2.2.2.1) i 0)) := by rw [efn569]; exact (hm_un (hm_ne h546 hmfn539 (fun q => by cases q))).trans h546
                have h577 : fn569 ((r 7)) = some (eI Γ 8 (upd (fun i => (gs i).2.2.2.2.2.2.1) i (((if FO = true then (gs i).2.2.2.2.2.1 + 1 else 0))))) := by rw [efn569]; exact (hm_un (hm_ne h547 hmfn539 (fun q => by cases q))).trans h547
                have h578 : fn569 ((r 8)) = some (eI Γ 8 (fun i => (gs i).2.2.2.2.2.2.2.1)) := by rw [efn569]; exact (hm_un (hm_ne h548 hmfn539 (fun q => by cases q))).trans h548
                have h579 : fn569 ((r 9)) = some (eZ Γ 8 (fun i => bI (gs i).2.2.2.2.2.2.2.2)) := by rw [efn569]; exact (hm_un (hm_ne h549 hmfn539 (fun q => by cases q))).trans h549
                have h580 : fn569 ((r 10)) = some (eJ Γ 60 (fun i => b4 (ts i).2.1)) := by rw [efn569]; exact (hm_un (hm_ne h550 hmfn539 (fun q => by cases q))).trans h550
                have h581 : fn569 ((r 11)) = some (eI Γ 60 (fun i => nI (ts i).2.2.1)) := by rw [efn569]; exact (hm_un (hm_ne h551 hmfn539 (fun q => by cases q))).trans h551
                have h582 : fn569 ((r 12)) = some (eI Γ 60 (fun i => nI (ts i).1)) := by rw [efn569]; exact (hm_un (hm_ne h552 hmfn539 (fun q => by cases q))).trans h552
                have h583 : fn569 ((r 13)) = some (eI Γ 60 (fun i => (ts i).2.2.2)) := by rw [efn569]; exact (hm_un (hm_ne h553 hmfn539 (fun q => by cases q))).trans h553
                have h584 : fn569 ((r 14)) = some (eJ Γ 64 (fun j => (K j).1)) := by rw [efn569]; exact (hm_un (hm_ne h554 hmfn539 (fun q => by cases q))).trans h554
                have h585 : fn569 ((r 15)) = some (eI Γ 64 (fun j => (K j).2.1)) := by rw [efn569]; exact (hm_un (hm_ne h555 hmfn539 (fun q => by cases q))).trans h555
                have h586 : fn569 ((r 16)) = some (eI Γ 64 (fun j => (K j).2.2.1)) := by rw [efn569]; exact (hm_un (hm_ne h556 hmfn539 (fun q => by cases q))).trans h556
                have h587 : fn569 ((r 17)) = some (eI Γ 64 (fun j => (K j).2.2.2.1)) := by rw [efn569]; exact (hm_un (hm_ne h557 hmfn539 (fun q => by cases q))).trans h557
                have h588 : fn569 ((r 18)) = some (eI Γ 64 (fun j => (K j).2.2.2.2.1)) := by rw [efn569]; exact (hm_un (hm_ne h558 hmfn539 (fun q => by cases q))).trans h558
                have h589 : fn569 ((r 19)) = some (eI Γ 64 (fun j => (K j).2.2.2.2.2.1)) := by rw [efn569]; exact (hm_un (hm_ne h559 hmfn539 (fun q => by cases q))).trans h559
                have h590 : fn569 ((r 20)) = some (eI Γ 64 (fun j => (K j).2.2.2.2.2.2)) := by rw [efn569]; exact (hm_un (hm_ne h560 hmfn539 (fun q => by cases q))).trans h560
                have h591 : fn569 ((r 21)) = some (eJ Γ 6 pb) := by rw [efn569]; exact (hm_un (hm_ne h561 hmfn539 (fun q => by cases q))).trans h561
                have h592 : fn569 ((r 22)) = some (eI Γ 6 pz) := by rw [efn569]; exact (hm_un (hm_ne h562 hmfn539 (fun q => by cases q))).trans h562
                have h593 : fn569 ((r 23)) = some (eI Γ 6 pd) := by rw [efn569]; exact (hm_un (hm_ne h563 hmfn539 (fun q => by cases q))).trans h563
                have h594 : fn569 ((r 24)) = some (eI Γ 6 pn) := by rw [efn569]; exact (hm_un (hm_ne h564 hmfn539 (fun q => by cases q))).trans h564
                have h595 : fn569 ((r 25)) = some (eI Γ 6 pe) := by rw [efn569]; exact (hm_un (hm_ne h565 hmfn539 (fun q => by cases q))).trans h565
                have h596 : fn569 ((r 26)) = some (eI Γ 6 ph) := by rw [efn569]; exact (hm_un (hm_ne h566 hmfn539 (fun q => by cases q))).trans h566
                have h597 : fn569 ((r 27)) = some (eI Γ 6 pg) := by rw [efn569]; exact (hm_un (hm_ne h567 hmfn539 (fun q => by cases q))).trans h567
                refine hm_last hx hb hK hO hS hH h571 (vp_in_nI hi8 (by decide)) dX8_push_173 (fun H locs hH hS => ?_)
                rw [nI_clamp (n := i) (by omega)] at hH
                obtain ⟨f598, ef598⟩ : ∃ zz_, zz_ = hm_up fn569 ((r 1)) (eJ Γ 8 (vp_updL (fun i => b4 (gs i).2.1) i (b4 (drawT (pushT (gs i).2.1 to) (gs i).2.2.1)))) := ⟨_, rfl⟩
                have hH : hm_H Γ f598 H := by rw [ef598]; exact hH
                have h599 : f598 ((r 1)) = some (eJ Γ 8 (vp_updL (fun i => b4 (gs i).2.1) i (b4 (drawT (pushT (gs i).2.1 to) (gs i).2.2.1)))) := by rw [ef598]; exact hm_us
                have h600 : f598 m0 = some (eM r 0 (nI np) (nI ng) (nI nt) (nI kp) (nI rr) ck lim (nI (nxt (nxt (gs i).2.2.1))) (nI (gainT (gs i).2.1 to)) hih mih fh msh msm mso sp rf) := by rw [ef598]; exact (hm_un (hm_ne hmfn569 h571 (fun q => by cases q))).trans hmfn569
                have h601 : f598 ((r 0)) = some (eI Γ 4 mon) := by rw [ef598]; exact (hm_un (hrI 0 1 (by decide) (by decide) (by decide))).trans h570
                have h602 : f598 ((r 2)) = some (eI Γ 8 (fun i => nI (gs i).2.2.1)) := by rw [ef598]; exact (hm_un (hrI 2 1 (by decide) (by decide) (by decide))).trans h572
                have h603 : f598 ((r 3)) = some (eI Γ 8 (fun i => nI (gs i).1)) := by rw [ef598]; exact (hm_un (hrI 3 1 (by decide) (by decide) (by decide))).trans h573
                have h604 : f598 ((r 4)) = some (eI Γ 8 (fun i => (gs i).2.2.2.1)) := by rw [ef598]; exact (hm_un (hrI 4 1 (by decide) (by decide) (by decide))).trans h574
                have h605 : f598 ((r 5)) = some (eI Γ 8 (fun i => (gs i).2.2.2.2.1)) := by rw [ef598]; exact (hm_un (hrI 5 1 (by decide) (by decide) (by decide))).trans h575
                have h606 : f598 ((r 6)) = some (eI Γ 8 (upd (fun i => (gs i).2.2.2.2.2.1) i 0)) := by rw [ef598]; exact (hm_un (hrI 6 1 (by decide) (by decide) (by decide))).trans h576
                have h607 : f598 ((r 7)) = some (eI Γ 8 (upd (fun i => (gs i).2.2.2.2.2.2.1) i (((if FO = true then (gs i).2.2.2.2.2.1 + 1 else 0))))) := by rw [ef598]; exact (hm_un (hrI 7 1 (by decide) (by decide) (by decide))).trans h577
                have h608 : f598 ((r 8)) = some (eI Γ 8 (fun i => (gs i).2.2.2.2.2.2.2.1)) := by rw [ef598]; exact (hm_un (hrI 8 1 (by decide) (by decide) (by decide))).trans h578
                have h609 : f598 ((r 9)) = some (eZ Γ 8 (fun i => bI (gs i).2.2.2.2.2.2.2.2)) := by rw [ef598]; exact (hm_un (hrI 9 1 (by decide) (by decide) (by decide))).trans h579
                have h610 : f598 ((r 10)) = some (eJ Γ 60 (fun i => b4 (ts i).2.1)) := by rw [ef598]; exact (hm_un (hrI 10 1 (by decide) (by decide) (by decide))).trans h580
                have h611 : f598 ((r 11)) = some (eI Γ 60 (fun i => nI (ts i).2.2.1)) := by rw [ef598]; exact (hm_un (hrI 11 1 (by decide) (by decide) (by decide))).trans h581
                have h612 : f598 ((r 12)) = some (eI Γ 60 (fun i => nI (ts i).1)) := by rw [ef598]; exact (hm_un (hrI 12 1 (by decide) (by decide) (by decide))).trans h582
                have h613 : f598 ((r 13)) = some (eI Γ 60 (fun i => (ts i).2.2.2)) := by rw [ef598]; exact (hm_un (hrI 13 1 (by decide) (by decide) (by decide))).trans h583
                have h614 : f598 ((r 14)) = some (eJ Γ 64 (fun j => (K j).1)) := by rw [ef598]; exact (hm_un (hrI 14 1 (by decide) (by decide) (by decide))).trans h584
                have h615 : f598 ((r 15)) = some (eI Γ 64 (fun j => (K j).2.1)) := by rw [ef598]; exact (hm_un (hrI 15 1 (by decide) (by decide) (by decide))).trans h585
                have h616 : f598 ((r 16)) = some (eI Γ 64 (fun j => (K j).2.2.1)) := by rw [ef598]; exact (hm_un (hrI 16 1 (by decide) (by decide) (by decide))).trans h586
                have h617 : f598 ((r 17)) = some (eI Γ 64 (fun j => (K j).2.2.2.1)) := by rw [ef598]; exact (hm_un (hrI 17 1 (by decide) (by decide) (by decide))).trans h587
                have h618 : f598 ((r 18)) = some (eI Γ 64 (fun j => (K j).2.2.2.2.1)) := by rw [ef598]; exact (hm_un (hrI 18 1 (by decide) (by decide) (by decide))).trans h588
                have h619 : f598 ((r 19)) = some (eI Γ 64 (fun j => (K j).2.2.2.2.2.1)) := by rw [ef598]; exact (hm_un (hrI 19 1 (by decide) (by decide) (by decide))).trans h589
                have h620 : f598 ((r 20)) = some (eI Γ 64 (fun j => (K j).2.2.2.2.2.2)) := by rw [ef598]; exact (hm_un (hrI 20 1 (by decide) (by decide) (by decide))).trans h590
                have h621 : f598 ((r 21)) = some (eJ Γ 6 pb) := by rw [ef598]; exact (hm_un (hrI 21 1 (by decide) (by decide) (by decide))).trans h591
                have h622 : f598 ((r 22)) = some (eI Γ 6 pz) := by rw [ef598]; exact (hm_un (hrI 22 1 (by decide) (by decide) (by decide))).trans h592
                have h623 : f598 ((r 23)) = some (eI Γ 6 pd) := by rw [ef598]; exact (hm_un (hrI 23 1 (by decide) (by decide) (by decide))).trans h593
                have h624 : f598 ((r 24)) = some (eI Γ 6 pn) := by rw [ef598]; exact (hm_un (hrI 24 1 (by decide) (by decide) (by decide))).trans h594
                have h625 : f598 ((r 25)) = some (eI Γ 6 pe) := by rw [ef598]; exact (hm_un (hrI 25 1 (by decide) (by decide) (by decide))).trans h595
                have h626 : f598 ((r 26)) = some (eI Γ 6 ph) := by rw [ef598]; exact (hm_un (hrI 26 1 (by decide) (by decide) (by decide))).trans h596
                have h627 : f598 ((r 27)) = some (eI Γ 6 pg) := by rw [ef598]; exact (hm_un (hrI 27 1 (by decide) (by decide) (by decide))).trans h597
                refine lv_aload_n hx hb dX8_push_174 rfl (lv_at hl 2 rfl) ?_
                refine gf_X8_17 hx hb hts hown hK hH h600 rfl dX8_push_175 ?_
                refine lv_iload_n hx hb dX8_push_178 rfl (lv_at hl 3 rfl) ?_
                refine lv_aload_n hx hb dX8_push_179 rfl (lv_at hl 2 rfl) ?_
                refine gf_X8_135 hx hb hts hown hK hH h600 rfl dX8_push_180 ?_
                refine hm_iast hx hb hK hO hS hH h602 (vp_in_nI hi8 (by decide)) dX8_push_183 (fun H locs hH hS => ?_)
                rw [nI_clamp (n := i) (by omega)] at hH
                obtain ⟨f628, ef628⟩ : ∃ zz_, zz_ = hm_up f598 ((r 2)) (eI Γ 8 (upd (fun i => nI (gs i).2.2.1) i (nI (nxt (nxt (gs i).2.2.1))))) := ⟨_, rfl⟩
                have hH : hm_H Γ f628 H := by rw [ef628]; exact hH
                have h629 : f628 ((r 2)) = some (eI Γ 8 (upd (fun i => nI (gs i).2.2.1) i (nI (nxt (nxt (gs i).2.2.1))))) := by rw [ef628]; exact hm_us
                have h630 : f628 m0 = some (eM r 0 (nI np) (nI ng) (nI nt) (nI kp) (nI rr) ck lim (nI (nxt (nxt (gs i).2.2.1))) (nI (gainT (gs i).2.1 to)) hih mih fh msh msm mso sp rf) := by rw [ef628]; exact (hm_un (hm_ne h600 h602 (fun q => by cases q))).trans h600
                have h631 : f628 ((r 0)) = some (eI Γ 4 mon) := by rw [ef628]; exact (hm_un (hrI 0 2 (by decide) (by decide) (by decide))).trans h601
                have h632 : f628 ((r 1)) = some (eJ Γ 8 (vp_updL (fun i => b4 (gs i).2.1) i (b4 (drawT (pushT (gs i).2.1 to) (gs i).2.2.1)))) := by rw [ef628]; exact (hm_un (hrI 1 2 (by decide) (by decide) (by decide))).trans h599
                have h633 : f628 ((r 3)) = some (eI Γ 8 (fun i => nI (gs i).1)) := by rw [ef628]; exact (hm_un (hrI 3 2 (by decide) (by decide) (by decide))).trans h603
                have h634 : f628 ((r 4)) = some (eI Γ 8 (fun i => (gs i).2.2.2.1)) := by rw [ef628]; exact (hm_un (hrI 4 2 (by decide) (by decide) (by decide))).trans h604
                have h635 : f628 ((r 5)) = some (eI Γ 8 (fun i => (gs i).2.2.2.2.1)) := by rw [ef628]; exact (hm_un (hrI 5 2 (by decide) (by decide) (by decide))).trans h605
                have h636 : f628 ((r 6)) = some (eI Γ 8 (upd (fun i => (gs i).2.2.2.2.2.1) i 0)) := by rw [ef628]; exact (hm_un (hrI 6 2 (by decide) (by decide) (by decide))).trans h606
                have h637 : f628 ((r 7)) = some (eI Γ 8 (upd (fun i => (gs i).2.2.2.2.2.2.1) i (((if FO = true then (gs i).2.2.2.2.2.1 + 1 else 0))))) := by rw [ef628]; exact (hm_un (hrI 7 2 (by decide) (by decide) (by decide))).trans h607
                have h638 : f628 ((r 8)) = some (eI Γ 8 (fun i => (gs i).2.2.2.2.2.2.2.1)) := by rw [ef628]; exact (hm_un (hrI 8 2 (by decide) (by decide) (by decide))).trans h608
                have h639 : f628 ((r 9)) = some (eZ Γ 8 (fun i => bI (gs i).2.2.2.2.2.2.2.2)) := by rw [ef628]; exact (hm_un (hrI 9 2 (by decide) (by decide) (by decide))).trans h609
                have h640 : f628 ((r 10)) = some (eJ Γ 60 (fun i => b4 (ts i).2.1)) := by rw [ef628]; exact (hm_un (hrI 10 2 (by decide) (by decide) (by decide))).trans h610
                have h641 : f628 ((r 11)) = some (eI Γ 60 (fun i => nI (ts i).2.2.1)) := by rw [ef628]; exact (hm_un (hrI 11 2 (by decide) (by decide) (by decide))).trans h611
                have h642 : f628 ((r 12)) = some (eI Γ 60 (fun i => nI (ts i).1)) := by rw [ef628]; exact (hm_un (hrI 12 2 (by decide) (by decide) (by decide))).trans h612
                have h643 : f628 ((r 13)) = some (eI Γ 60 (fun i => (ts i).2.2.2)) := by rw [ef628]; exact (hm_un (hrI 13 2 (by decide) (by decide) (by decide))).trans h613
                have h644 : f628 ((r 14)) = some (eJ Γ 64 (fun j => (K j).1)) := by rw [ef628]; exact (hm_un (hrI 14 2 (by decide) (by decide) (by decide))).trans h614
                have h645 : f628 ((r 15)) = some (eI Γ 64 (fun j => (K j).2.1)) := by rw [ef628]; exact (hm_un (hrI 15 2 (by decide) (by decide) (by decide))).trans h615
                have h646 : f628 ((r 16)) = some (eI Γ 64 (fun j => (K j).2.2.1)) := by rw [ef628]; exact (hm_un (hrI 16 2 (by decide) (by decide) (by decide))).trans h616
                have h647 : f628 ((r 17)) = some (eI Γ 64 (fun j => (K j).2.2.2.1)) := by rw [ef628]; exact (hm_un (hrI 17 2 (by decide) (by decide) (by decide))).trans h617
                have h648 : f628 ((r 18)) = some (eI Γ 64 (fun j => (K j).2.2.2.2.1)) := by rw [ef628]; exact (hm_un (hrI 18 2 (by decide) (by decide) (by decide))).trans h618
                have h649 : f628 ((r 19)) = some (eI Γ 64 (fun j => (K j).2.2.2.2.2.1)) := by rw [ef628]; exact (hm_un (hrI 19 2 (by decide) (by decide) (by decide))).trans h619
                have h650 : f628 ((r 20)) = some (eI Γ 64 (fun j => (K j).2.2.2.2.2.2)) := by rw [ef628]; exact (hm_un (hrI 20 2 (by decide) (by decide) (by decide))).trans h620
                have h651 : f628 ((r 21)) = some (eJ Γ 6 pb) := by rw [ef628]; exact (hm_un (hrI 21 2 (by decide) (by decide) (by decide))).trans h621
                have h652 : f628 ((r 22)) = some (eI Γ 6 pz) := by rw [ef628]; exact (hm_un (hrI 22 2 (by decide) (by decide) (by decide))).trans h622
                have h653 : f628 ((r 23)) = some (eI Γ 6 pd) := by rw [ef628]; exact (hm_un (hrI 23 2 (by decide) (by decide) (by decide))).trans h623
                have h654 : f628 ((r 24)) = some (eI Γ 6 pn) := by rw [ef628]; exact (hm_un (hrI 24 2 (by decide) (by decide) (by decide))).trans h624
                have h655 : f628 ((r 25)) = some (eI Γ 6 pe) := by rw [ef628]; exact (hm_un (hrI 25 2 (by decide) (by decide) (by decide))).trans h625
                have h656 : f628 ((r 26)) = some (eI Γ 6 ph) := by rw [ef628]; exact (hm_un (hrI 26 2 (by decide) (by decide) (by decide))).trans h626
                have h657 : f628 ((r 27)) = some (eI Γ 6 pg) := by rw [ef628]; exact (hm_un (hrI 27 2 (by decide) (by decide) (by decide))).trans h627
                refine lv_aload_n hx hb dX8_push_184 rfl (lv_at hl 2 rfl) ?_
                refine gf_X8_23 hx hb hts hown hK hH h630 rfl dX8_push_185 ?_
                refine lv_iload_n hx hb dX8_push_188 rfl (lv_at hl 3 rfl) ?_
                refine lv_dup2_11 hx hb dX8_push_189 rfl rfl ?_
                refine hm_iald hx hb hK hH h634 (vp_in_nI hi8 (by decide)) dX8_push_190 ?_
                refine lv_topi (fun v658 ev658 => ?_)
                replace ev658 : v658 = (gs i).2.2.2.1 := ev658.trans (by show (gs (nI i).toNatClampNeg).2.2.2.1 = _; rw [nI_clamp (n := i) (by omega)])
                subst ev658
                refine lv_iload hx hb dX8_push_191 (lv_at hl 0 rfl) ?_
                refine lv_iadd hx hb dX8_push_193 ?_
                refine lv_topi (fun v659 ev659 => ?_)
                replace ev659 : v659 = ((gs i).2.2.2.1 + nI (gainT (gs i).2.1 to)) := ev659.trans (rfl)
                subst ev659
                refine hm_iast hx hb hK hO hS hH h634 (vp_in_nI hi8 (by decide)) dX8_push_194 (fun H locs hH hS => ?_)
                rw [nI_clamp (n := i) (by omega)] at hH
                obtain ⟨f660, ef660⟩ : ∃ zz_, zz_ = hm_up f628 ((r 4)) (eI Γ 8 (upd (fun i => (gs i).2.2.2.1) i (((gs i).2.2.2.1 + nI (gainT (gs i).2.1 to))))) := ⟨_, rfl⟩
                have hH : hm_H Γ f660 H := by rw [ef660]; exact hH
                have h661 : f660 ((r 4)) = some (eI Γ 8 (upd (fun i => (gs i).2.2.2.1) i (((gs i).2.2.2.1 + nI (gainT (gs i).2.1 to))))) := by rw [ef660]; exact hm_us
                have h662 : f660 m0 = some (eM r 0 (nI np) (nI ng) (nI nt) (nI kp) (nI rr) ck lim (nI (nxt (nxt (gs i).2.2.1))) (nI (gainT (gs i).2.1 to)) hih mih fh msh msm mso sp rf) := by rw [ef660]; exact (hm_un (hm_ne h630 h634 (fun q => by cases q))).trans h630
                have h663 : f660 ((r 0)) = some (eI Γ 4 mon) := by rw [ef660]; exact (hm_un (hrI 0 4 (by decide) (by decide) (by decide))).trans h631
                have h664 : f660 ((r 1)) = some (eJ Γ 8 (vp_updL (fun i => b4 (gs i).2.1) i (b4 (drawT (pushT (gs i).2.1 to) (gs i).2.2.1)))) := by rw [ef660]; exact (hm_un (hrI 1 4 (by decide) (by decide) (by decide))).trans h632
                have h665 : f660 ((r 2)) = some (eI Γ 8 (upd (fun i => nI (gs i).2.2.1) i (nI (nxt (nxt (gs i).2.2.1))))) := by rw [ef660]; exact (hm_un (hrI 2 4 (by decide) (by decide) (by decide))).trans h629
                have h666 : f660 ((r 3)) = some (eI Γ 8 (fun i => nI (gs i).1)) := by rw [ef660]; exact (hm_un (hrI 3 4 (by decide) (by decide) (by decide))).trans h633
                have h667 : f660 ((r 5)) = some (eI Γ 8 (fun i => (gs i).2.2.2.2.1)) := by rw [ef660]; exact (hm_un (hrI 5 4 (by decide) (by decide) (by decide))).trans h635
                have h668 : f660 ((r 6)) = some (eI Γ 8 (upd (fun i => (gs i).2.2.2.2.2.1) i 0)) := by rw [ef660]; exact (hm_un (hrI 6 4 (by decide) (by decide) (by decide))).trans h636
                have h669 : f660 ((r 7)) = some (eI Γ 8 (upd (fun i => (gs i).2.2.2.2.2.2.1) i (((if FO = true then (gs i).2.2.2.2.2.1 + 1 else 0))))) := by rw [ef660]; exact (hm_un (hrI 7 4 (by decide) (by decide) (by decide))).trans h637
                have h670 : f660 ((r 8)) = some (eI Γ 8 (fun i => (gs i).2.2.2.2.2.2.2.1)) := by rw [ef660]; exact (hm_un (hrI 8 4 (by decide) (by decide) (by decide))).trans h638
                have h671 : f660 ((r 9)) = some (eZ Γ 8 (fun i => bI (gs i).2.2.2.2.2.2.2.2)) := by rw [ef660]; exact (hm_un (hrI 9 4 (by decide) (by decide) (by decide))).trans h639
                have h672 : f660 ((r 10)) = some (eJ Γ 60 (fun i => b4 (ts i).2.1)) := by rw [ef660]; exact (hm_un (hrI 10 4 (by decide) (by decide) (by decide))).trans h640
                have h673 : f660 ((r 11)) = some (eI Γ 60 (fun i => nI (ts i).2.2.1)) := by rw [ef660]; exact (hm_un (hrI 11 4 (by decide) (by decide) (by decide))).trans h641
                have h674 : f660 ((r 12)) = some (eI Γ 60 (fun i => nI (ts i).1)) := by rw [ef660]; exact (hm_un (hrI 12 4 (by decide) (by decide) (by decide))).trans h642
                have h675 : f660 ((r 13)) = some (eI Γ 60 (fun i => (ts i).2.2.2)) := by rw [ef660]; exact (hm_un (hrI 13 4 (by decide) (by decide) (by decide))).trans h643
                have h676 : f660 ((r 14)) = some (eJ Γ 64 (fun j => (K j).1)) := by rw [ef660]; exact (hm_un (hrI 14 4 (by decide) (by decide) (by decide))).trans h644
                have h677 : f660 ((r 15)) = some (eI Γ 64 (fun j => (K j).2.1)) := by rw [ef660]; exact (hm_un (hrI 15 4 (by decide) (by decide) (by decide))).trans h645
                have h678 : f660 ((r 16)) = some (eI Γ 64 (fun j => (K j).2.2.1)) := by rw [ef660]; exact (hm_un (hrI 16 4 (by decide) (by decide) (by decide))).trans h646
                have h679 : f660 ((r 17)) = some (eI Γ 64 (fun j => (K j).2.2.2.1)) := by rw [ef660]; exact (hm_un (hrI 17 4 (by decide) (by decide) (by decide))).trans h647
                have h680 : f660 ((r 18)) = some (eI Γ 64 (fun j => (K j).2.2.2.2.1)) := by rw [ef660]; exact (hm_un (hrI 18 4 (by decide) (by decide) (by decide))).trans h648
                have h681 : f660 ((r 19)) = some (eI Γ 64 (fun j => (K j).2.2.2.2.2.1)) := by rw [ef660]; exact (hm_un (hrI 19 4 (by decide) (by decide) (by decide))).trans h649
                have h682 : f660 ((r 20)) = some (eI Γ 64 (fun j => (K j).2.2.2.2.2.2)) := by rw [ef660]; exact (hm_un (hrI 20 4 (by decide) (by decide) (by decide))).trans h650
                have h683 : f660 ((r 21)) = some (eJ Γ 6 pb) := by rw [ef660]; exact (hm_un (hrI 21 4 (by decide) (by decide) (by decide))).trans h651
                have h684 : f660 ((r 22)) = some (eI Γ 6 pz) := by rw [ef660]; exact (hm_un (hrI 22 4 (by decide) (by decide) (by decide))).trans h652
                have h685 : f660 ((r 23)) = some (eI Γ 6 pd) := by rw [ef660]; exact (hm_un (hrI 23 4 (by decide) (by decide) (by decide))).trans h653
                have h686 : f660 ((r 24)) = some (eI Γ 6 pn) := by rw [ef660]; exact (hm_un (hrI 24 4 (by decide) (by decide) (by decide))).trans h654
                have h687 : f660 ((r 25)) = some (eI Γ 6 pe) := by rw [ef660]; exact (hm_un (hrI 25 4 (by decide) (by decide) (by decide))).trans h655
                have h688 : f660 ((r 26)) = some (eI Γ 6 ph) := by rw [ef660]; exact (hm_un (hrI 26 4 (by decide) (by decide) (by decide))).trans h656
                have h689 : f660 ((r 27)) = some (eI Γ 6 pg) := by rw [ef660]; exact (hm_un (hrI 27 4 (by decide) (by decide) (by decide))).trans h657
                refine lv_aload_n hx hb dX8_push_195 rfl (lv_at hl 2 rfl) ?_
                refine gf_X8_26 hx hb hts hown hK hH h662 rfl dX8_push_196 ?_
                refine lv_iload_n hx hb dX8_push_199 rfl (lv_at hl 3 rfl) ?_
                refine lv_dup2_11 hx hb dX8_push_200 rfl rfl ?_
                refine hm_iald hx hb hK hH h667 (vp_in_nI hi8 (by decide)) dX8_push_201 ?_
                refine lv_topi (fun v690 ev690 => ?_)
                replace ev690 : v690 = (gs i).2.2.2.2.1 := ev690.trans (by show (gs (nI i).toNatClampNeg).2.2.2.2.1 = _; rw [nI_clamp (n := i) (by omega)])
                subst ev690
                refine lv_iconst (v := 1) hx hb dX8_push_202 (by decide) ?_
                refine lv_iadd hx hb dX8_push_203 ?_
                refine lv_topi (fun v691 ev691 => ?_)
                replace ev691 : v691 = ((gs i).2.2.2.2.1 + 1) := ev691.trans (rfl)
                subst ev691
                refine hm_iast hx hb hK hO hS hH h667 (vp_in_nI hi8 (by decide)) dX8_push_204 (fun H locs hH hS => ?_)
                rw [nI_clamp (n := i) (by omega)] at hH
                obtain ⟨f692, ef692⟩ : ∃ zz_, zz_ = hm_up f660 ((r 5)) (eI Γ 8 (upd (fun i => (gs i).2.2.2.2.1) i (((gs i).2.2.2.2.1 + 1)))) := ⟨_, rfl⟩
                have hH : hm_H Γ f692 H := by rw [ef692]; exact hH
                have h693 : f692 ((r 5)) = some (eI Γ 8 (upd (fun i => (gs i).2.2.2.2.1) i (((gs i).2.2.2.2.1 + 1)))) := by rw [ef692]; exact hm_us
                have h694 : f692 m0 = some (eM r 0 (nI np) (nI ng) (nI nt) (nI kp) (nI rr) ck lim (nI (nxt (nxt (gs i).2.2.1))) (nI (gainT (gs i).2.1 to)) hih mih fh msh msm mso sp rf) := by rw [ef692]; exact (hm_un (hm_ne h662 h667 (fun q => by cases q))).trans h662
                have h695 : f692 ((r 0)) = some (eI Γ 4 mon) := by rw [ef692]; exact (hm_un (hrI 0 5 (by decide) (by decide) (by decide))).trans h663
                have h696 : f692 ((r 1)) = some (eJ Γ 8 (vp_updL (fun i => b4 (gs i).2.1) i (b4 (drawT (pushT (gs i).2.1 to) (gs i).2.2.1)))) := by rw [ef692]; exact (hm_un (hrI 1 5 (by decide) (by decide) (by decide))).trans h664
                have h697 : f692 ((r 2)) = some (eI Γ 8 (upd (fun i => nI (gs i).2.2.1) i (nI (nxt (nxt (gs i).2.2.1))))) := by rw [ef692]; exact (hm_un (hrI 2 5 (by decide) (by decide) (by decide))).trans h665
                have h698 : f692 ((r 3)) = some (eI Γ 8 (fun i => nI (gs i).1)) := by rw [ef692]; exact (hm_un (hrI 3 5 (by decide) (by decide) (by decide))).trans h666
                have h699 : f692 ((r 4)) = some (eI Γ 8 (upd (fun i => (gs i).2.2.2.1) i (((gs i).2.2.2.1 + nI (gainT (gs i).2.1 to))))) := by rw [ef692]; exact (hm_un (hrI 4 5 (by decide) (by decide) (by decide))).trans h661
                have h700 : f692 ((r 6)) = some (eI Γ 8 (upd (fun i => (gs i).2.2.2.2.2.1) i 0)) := by rw [ef692]; exact (hm_un (hrI 6 5 (by decide) (by decide) (by decide))).trans h668
                have h701 : f692 ((r 7)) = some (eI Γ 8 (upd (fun i => (gs i).2.2.2.2.2.2.1) i (((if FO = true then (gs i).2.2.2.2.2.1 + 1 else 0))))) := by rw [ef692]; exact (hm_un (hrI 7 5 (by decide) (by decide) (by decide))).trans h669
                have h702 : f692 ((r 8)) = some (eI Γ 8 (fun i => (gs i).2.2.2.2.2.2.2.1)) := by rw [ef692]; exact (hm_un (hrI 8 5 (by decide) (by decide) (by decide))).trans h670
                have h703 : f692 ((r 9)) = some (eZ Γ 8 (fun i => bI (gs i).2.2.2.2.2.2.2.2)) := by rw [ef692]; exact (hm_un (hrI 9 5 (by decide) (by decide) (by decide))).trans h671
                have h704 : f692 ((r 10)) = some (eJ Γ 60 (fun i => b4 (ts i).2.1)) := by rw [ef692]; exact (hm_un (hrI 10 5 (by decide) (by decide) (by decide))).trans h672
                have h705 : f692 ((r 11)) = some (eI Γ 60 (fun i => nI (ts i).2.2.1)) := by rw [ef692]; exact (hm_un (hrI 11 5 (by decide) (by decide) (by decide))).trans h673
                have h706 : f692 ((r 12)) = some (eI Γ 60 (fun i => nI (ts i).1)) := by rw [ef692]; exact (hm_un (hrI 12 5 (by decide) (by decide) (by decide))).trans h674
                have h707 : f692 ((r 13)) = some (eI Γ 60 (fun i => (ts i).2.2.2)) := by rw [ef692]; exact (hm_un (hrI 13 5 (by decide) (by decide) (by decide))).trans h675
                have h708 : f692 ((r 14)) = some (eJ Γ 64 (fun j => (K j).1)) := by rw [ef692]; exact (hm_un (hrI 14 5 (by decide) (by decide) (by decide))).trans h676
                have h709 : f692 ((r 15)) = some (eI Γ 64 (fun j => (K j).2.1)) := by rw [ef692]; exact (hm_un (hrI 15 5 (by decide) (by decide) (by decide))).trans h677
                have h710 : f692 ((r 16)) = some (eI Γ 64 (fun j => (K j).2.2.1)) := by rw [ef692]; exact (hm_un (hrI 16 5 (by decide) (by decide) (by decide))).trans h678
                have h711 : f692 ((r 17)) = some (eI Γ 64 (fun j => (K j).2.2.2.1)) := by rw [ef692]; exact (hm_un (hrI 17 5 (by decide) (by decide) (by decide))).trans h679
                have h712 : f692 ((r 18)) = some (eI Γ 64 (fun j => (K j).2.2.2.2.1)) := by rw [ef692]; exact (hm_un (hrI 18 5 (by decide) (by decide) (by decide))).trans h680
                have h713 : f692 ((r 19)) = some (eI Γ 64 (fun j => (K j).2.2.2.2.2.1)) := by rw [ef692]; exact (hm_un (hrI 19 5 (by decide) (by decide) (by decide))).trans h681
                have h714 : f692 ((r 20)) = some (eI Γ 64 (fun j => (K j).2.2.2.2.2.2)) := by rw [ef692]; exact (hm_un (hrI 20 5 (by decide) (by decide) (by decide))).trans h682
                have h715 : f692 ((r 21)) = some (eJ Γ 6 pb) := by rw [ef692]; exact (hm_un (hrI 21 5 (by decide) (by decide) (by decide))).trans h683
                have h716 : f692 ((r 22)) = some (eI Γ 6 pz) := by rw [ef692]; exact (hm_un (hrI 22 5 (by decide) (by decide) (by decide))).trans h684
                have h717 : f692 ((r 23)) = some (eI Γ 6 pd) := by rw [ef692]; exact (hm_un (hrI 23 5 (by decide) (by decide) (by decide))).trans h685
                have h718 : f692 ((r 24)) = some (eI Γ 6 pn) := by rw [ef692]; exact (hm_un (hrI 24 5 (by decide) (by decide) (by decide))).trans h686
                have h719 : f692 ((r 25)) = some (eI Γ 6 pe) := by rw [ef692]; exact (hm_un (hrI 25 5 (by decide) (by decide) (by decide))).trans h687
                have h720 : f692 ((r 26)) = some (eI Γ 6 ph) := by rw [ef692]; exact (hm_un (hrI 26 5 (by decide) (by decide) (by decide))).trans h688
                have h721 : f692 ((r 27)) = some (eI Γ 6 pg) := by rw [ef692]; exact (hm_un (hrI 27 5 (by decide) (by decide) (by decide))).trans h689
                refine lv_iload hx hb dX8_push_205 (lv_at hl 0 rfl) ?_
                have hfr9 : hm_fr (mS m0 r) f f692 := by
                  rw [ef692, ef660, ef628, ef598, efn569, efn539, ef508, ef290, efn255, efn192, efn126, efn1]
                  exact ((((((((((((hm_fr.rf (S := mS m0 r)).up mS_0).up mS_0).up mS_0).up mS_0).up (mS_r (by decide))).up (mS_r (by decide))).up mS_0).up mS_0).up (mS_r (by decide))).up (mS_r (by decide))).up (mS_r (by decide))).up (mS_r (by decide))
                exact hm_iret hx hb hr hlocks hS hH (⟨Or.inl ⟨by rw [hb1]; (try rw [hix]); rw [hb125]; (try rw [hit]); rw [hb254]; rfl, by rw [hix, hit], MW.mk h694 ⟨⟨h708, h709, h710, h711, h712, h713, h714⟩, ⟨_, _, _, _, _, _, _, h715, h716, h717, h718, h719, h720, h721⟩, h695, ⟨(by rw [hix, hit, ← eFO]; exact h696.trans (congrArg some (congrArg (eJ Γ 8) (updL_fun (fun x : GS => b4 (x).2.1) gs i ((gs i).1, drawT (pushT (gs i).2.1 to) (gs i).2.2.1, nxt (nxt (gs i).2.2.1), (gs i).2.2.2.1 + nI (gainT (gs i).2.1 to), (gs i).2.2.2.2.1 + 1, (if FO then (gs i).2.2.2.2.2.1 + 1 else 0), mxI (gs i).2.2.2.2.2.2.1 (if FO then (gs i).2.2.2.2.2.1 + 1 else 0), (gs i).2.2.2.2.2.2.2.1, (gs i).2.2.2.2.2.2.2.2))))), (by rw [hix, hit, ← eFO]; exact h697.trans (congrArg some (congrArg (eI Γ 8) (upd_fun (fun x : GS => nI (x).2.2.1) gs i ((gs i).1, drawT (pushT (gs i).2.1 to) (gs i).2.2.1, nxt (nxt (gs i).2.2.1), (gs i).2.2.2.1 + nI (gainT (gs i).2.1 to), (gs i).2.2.2.2.1 + 1, (if FO then (gs i).2.2.2.2.2.1 + 1 else 0), mxI (gs i).2.2.2.2.2.2.1 (if FO then (gs i).2.2.2.2.2.1 + 1 else 0), (gs i).2.2.2.2.2.2.2.1, (gs i).2.2.2.2.2.2.2.2))))), (by rw [hix, hit, ← eFO]; exact h698.trans (congrArg some (congrArg (eI Γ 8) (gset_p (fun x : GS => nI (x).1) (gs := gs) (i := i) (y := ((gs i).1, drawT (pushT (gs i).2.1 to) (gs i).2.2.1, nxt (nxt (gs i).2.2.1), (gs i).2.2.2.1 + nI (gainT (gs i).2.1 to), (gs i).2.2.2.2.1 + 1, (if FO then (gs i).2.2.2.2.2.1 + 1 else 0), mxI (gs i).2.2.2.2.2.2.1 (if FO then (gs i).2.2.2.2.2.1 + 1 else 0), (gs i).2.2.2.2.2.2.2.1, (gs i).2.2.2.2.2.2.2.2)) rfl)))), (by rw [hix, hit, ← eFO]; exact h699.trans (congrArg some (congrArg (eI Γ 8) (upd_fun (fun x : GS => (x).2.2.2.1) gs i ((gs i).1, drawT (pushT (gs i).2.1 to) (gs i).2.2.1, nxt (nxt (gs i).2.2.1), (gs i).2.2.2.1 + nI (gainT (gs i).2.1 to), (gs i).2.2.2.2.1 + 1, (if FO then (gs i).2.2.2.2.2.1 + 1 else 0), mxI (gs i).2.2.2.2.2.2.1 (if FO then (gs i).2.2.2.2.2.1 + 1 else 0), (gs i).2.2.2.2.2.2.2.1, (gs i).2.2.2.2.2.2.2.2))))), (by rw [hix, hit, ← eFO]; exact h693.trans (congrArg some (congrArg (eI Γ 8) (upd_fun (fun x : GS => (x).2.2.2.2.1) gs i ((gs i).1, drawT (pushT (gs i).2.1 to) (gs i).2.2.1, nxt (nxt (gs i).2.2.1), (gs i).2.2.2.1 + nI (gainT (gs i).2.1 to), (gs i).2.2.2.2.1 + 1, (if FO then (gs i).2.2.2.2.2.1 + 1 else 0), mxI (gs i).2.2.2.2.2.2.1 (if FO then (gs i).2.2.2.2.2.1 + 1 else 0), (gs i).2.2.2.2.2.2.2.1, (gs i).2.2.2.2.2.2.2.2))))), (by rw [hix, hit, ← eFO]; have z_ := h700; rw [← hrw] at z_; exact z_.trans (congrArg some (congrArg (eI Γ 8) (upd_fun (fun x : GS => (x).2.2.2.2.2.1) gs i ((gs i).1, drawT (pushT (gs i).2.1 to) (gs i).2.2.1, nxt (nxt (gs i).2.2.1), (gs i).2.2.2.1 + nI (gainT (gs i).2.1 to), (gs i).2.2.2.2.1 + 1, (if FO then (gs i).2.2.2.2.2.1 + 1 else 0), mxI (gs i).2.2.2.2.2.2.1 (if FO then (gs i).2.2.2.2.2.1 + 1 else 0), (gs i).2.2.2.2.2.2.2.1, (gs i).2.2.2.2.2.2.2.2))))), (by rw [hix, hit, ← eFO]; have z_ := h701; rw [← hmx] at z_; exact z_.trans (congrArg some (congrArg (eI Γ 8) (upd_fun (fun x : GS => (x).2.2.2.2.2.2.1) gs i ((gs i).1, drawT (pushT (gs i).2.1 to) (gs i).2.2.1, nxt (nxt (gs i).2.2.1), (gs i).2.2.2.1 + nI (gainT (gs i).2.1 to), (gs i).2.2.2.2.1 + 1, (if FO then (gs i).2.2.2.2.2.1 + 1 else 0), mxI (gs i).2.2.2.2.2.2.1 (if FO then (gs i).2.2.2.2.2.1 + 1 else 0), (gs i).2.2.2.2.2.2.2.1, (gs i).2.2.2.2.2.2.2.2))))), (by rw [hix, hit, ← eFO]; exact h702.trans (congrArg some (congrArg (eI Γ 8) (gset_p (fun x : GS => (x).2.2.2.2.2.2.2.1) (gs := gs) (i := i) (y := ((gs i).1, drawT (pushT (gs i).2.1 to) (gs i).2.2.1, nxt (nxt (gs i).2.2.1), (gs i).2.2.2.1 + nI (gainT (gs i).2.1 to), (gs i).2.2.2.2.1 + 1, (if FO then (gs i).2.2.2.2.2.1 + 1 else 0), mxI (gs i).2.2.2.2.2.2.1 (if FO then (gs i).2.2.2.2.2.1 + 1 else 0), (gs i).2.2.2.2.2.2.2.1, (gs i).2.2.2.2.2.2.2.2)) rfl)))), (by rw [hix, hit, ← eFO]; exact h703.trans (congrArg some (congrArg (eZ Γ 8) (gset_p (fun x : GS => bI (x).2.2.2.2.2.2.2.2) (gs := gs) (i := i) (y := ((gs i).1, drawT (pushT (gs i).2.1 to) (gs i).2.2.1, nxt (nxt (gs i).2.2.1), (gs i).2.2.2.1 + nI (gainT (gs i).2.1 to), (gs i).2.2.2.2.1 + 1, (if FO then (gs i).2.2.2.2.2.1 + 1 else 0), mxI (gs i).2.2.2.2.2.2.1 (if FO then (gs i).2.2.2.2.2.1 + 1 else 0), (gs i).2.2.2.2.2.2.2.1, (gs i).2.2.2.2.2.2.2.2)) rfl))))⟩, h704, h705, h706, h707⟩⟩, hfr9.k⟩) (Nat.le_of_ble_eq_true rfl) (Nat.le_of_ble_eq_true rfl) dX8_push_207
            · refine lv_aload_n hx hb dX8_push_99 rfl (lv_at hl 0 rfl) ?_
              refine gf_X8_29 hx hb hts hown hK hH hm256 rfl dX8_push_100 ?_
              refine lv_iload_n hx hb dX8_push_103 rfl (lv_at hl 1 rfl) ?_
              refine hm_iald hx hb hK hH h263 (vp_in_nI hi8 (by decide)) dX8_push_104 ?_
              refine lv_topi (fun v722 ev722 => ?_)
              replace ev722 : v722 = (gs i).2.2.2.2.2.1 := ev722.trans (by show (gs (nI i).toNatClampNeg).2.2.2.2.2.1 = _; rw [nI_clamp (n := i) (by omega)])
              subst ev722
              refine lv_iconst (v := 1) hx hb dX8_push_105 (by decide) ?_
              refine lv_iadd hx hb dX8_push_106 ?_
              refine lv_topi (fun v723 ev723 => ?_)
              replace ev723 : v723 = ((gs i).2.2.2.2.2.1 + 1) := ev723.trans (rfl)
              subst ev723
              refine lv_goto (tgt := 111) hx hb dX8_push_107 (by decide) ?_
              refine hm_iast hx hb hK hO hS hH h263 (vp_in_nI hi8 (by decide)) dX8_push_111 (fun H locs hH hS => ?_)
              rw [nI_clamp (n := i) (by omega)] at hH
              obtain ⟨f724, ef724⟩ : ∃ zz_, zz_ = hm_up fn255 ((r 6)) (eI Γ 8 (upd (fun i => (gs i).2.2.2.2.2.1) i (((gs i).2.2.2.2.2.1 + 1)))) := ⟨_, rfl⟩
              have hH : hm_H Γ f724 H := by rw [ef724]; exact hH
              have h725 : f724 ((r 6)) = some (eI Γ 8 (upd (fun i => (gs i).2.2.2.2.2.1) i (((gs i).2.2.2.2.2.1 + 1)))) := by rw [ef724]; exact hm_us
              have h726 : f724 m0 = some (eM r 0 (nI np) (nI ng) (nI nt) (nI kp) (nI rr) ck lim dz (nI (gainT (gs i).2.1 to)) hih mih fh msh msm mso sp rf) := by rw [ef724]; exact (hm_un (hm_ne hm256 h263 (fun q => by cases q))).trans hm256
              have h727 : f724 ((r 0)) = some (eI Γ 4 mon) := by rw [ef724]; exact (hm_un (hrI 0 6 (by decide) (by decide) (by decide))).trans h257
              have h728 : f724 ((r 1)) = some (eJ Γ 8 (fun i => b4 (gs i).2.1)) := by rw [ef724]; exact (hm_un (hrI 1 6 (by decide) (by decide) (by decide))).trans h258
              have h729 : f724 ((r 2)) = some (eI Γ 8 (fun i => nI (gs i).2.2.1)) := by rw [ef724]; exact (hm_un (hrI 2 6 (by decide) (by decide) (by decide))).trans h259
              have h730 : f724 ((r 3)) = some (eI Γ 8 (fun i => nI (gs i).1)) := by rw [ef724]; exact (hm_un (hrI 3 6 (by decide) (by decide) (by decide))).trans h260
              have h731 : f724 ((r 4)) = some (eI Γ 8 (fun i => (gs i).2.2.2.1)) := by rw [ef724]; exact (hm_un (hrI 4 6 (by decide) (by decide) (by decide))).trans h261
              have h732 : f724 ((r 5)) = some (eI Γ 8 (fun i => (gs i).2.2.2.2.1)) := by rw [ef724]; exact (hm_un (hrI 5 6 (by decide) (by decide) (by decide))).trans h262
              have h733 : f724 ((r 7)) = some (eI Γ 8 (fun i => (gs i).2.2.2.2.2.2.1)) := by rw [ef724]; exact (hm_un (hrI 7 6 (by decide) (by decide) (by decide))).trans h264
              have h734 : f724 ((r 8)) = some (eI Γ 8 (fun i => (gs i).2.2.2.2.2.2.2.1)) := by rw [ef724]; exact (hm_un (hrI 8 6 (by decide) (by decide) (by decide))).trans h265
              have h735 : f724 ((r 9)) = some (eZ Γ 8 (fun i => bI (gs i).2.2.2.2.2.2.2.2)) := by rw [ef724]; exact (hm_un (hrI 9 6 (by decide) (by decide) (by decide))).trans h266
              have h736 : f724 ((r 10)) = some (eJ Γ 60 (fun i => b4 (ts i).2.1)) := by rw [ef724]; exact (hm_un (hrI 10 6 (by decide) (by decide) (by decide))).trans h267
              have h737 : f724 ((r 11)) = some (eI Γ 60 (fun i => nI (ts i).2.2.1)) := by rw [ef724]; exact (hm_un (hrI 11 6 (by decide) (by decide) (by decide))).trans h268
              have h738 : f724 ((r 12)) = some (eI Γ 60 (fun i => nI (ts i).1)) := by rw [ef724]; exact (hm_un (hrI 12 6 (by decide) (by decide) (by decide))).trans h269
              have h739 : f724 ((r 13)) = some (eI Γ 60 (fun i => (ts i).2.2.2)) := by rw [ef724]; exact (hm_un (hrI 13 6 (by decide) (by decide) (by decide))).trans h270
              have h740 : f724 ((r 14)) = some (eJ Γ 64 (fun j => (K j).1)) := by rw [ef724]; exact (hm_un (hrI 14 6 (by decide) (by decide) (by decide))).trans h271
              have h741 : f724 ((r 15)) = some (eI Γ 64 (fun j => (K j).2.1)) := by rw [ef724]; exact (hm_un (hrI 15 6 (by decide) (by decide) (by decide))).trans h272
              have h742 : f724 ((r 16)) = some (eI Γ 64 (fun j => (K j).2.2.1)) := by rw [ef724]; exact (hm_un (hrI 16 6 (by decide) (by decide) (by decide))).trans h273
              have h743 : f724 ((r 17)) = some (eI Γ 64 (fun j => (K j).2.2.2.1)) := by rw [ef724]; exact (hm_un (hrI 17 6 (by decide) (by decide) (by decide))).trans h274
              have h744 : f724 ((r 18)) = some (eI Γ 64 (fun j => (K j).2.2.2.2.1)) := by rw [ef724]; exact (hm_un (hrI 18 6 (by decide) (by decide) (by decide))).trans h275
              have h745 : f724 ((r 19)) = some (eI Γ 64 (fun j => (K j).2.2.2.2.2.1)) := by rw [ef724]; exact (hm_un (hrI 19 6 (by decide) (by decide) (by decide))).trans h276
              have h746 : f724 ((r 20)) = some (eI Γ 64 (fun j => (K j).2.2.2.2.2.2)) := by rw [ef724]; exact (hm_un (hrI 20 6 (by decide) (by decide) (by decide))).trans h277
              have h747 : f724 ((r 21)) = some (eJ Γ 6 pb) := by rw [ef724]; exact (hm_un (hrI 21 6 (by decide) (by decide) (by decide))).trans h278
              have h748 : f724 ((r 22)) = some (eI Γ 6 pz) := by rw [ef724]; exact (hm_un (hrI 22 6 (by decide) (by decide) (by decide))).trans h279
              have h749 : f724 ((r 23)) = some (eI Γ 6 pd) := by rw [ef724]; exact (hm_un (hrI 23 6 (by decide) (by decide) (by decide))).trans h280
              have h750 : f724 ((r 24)) = some (eI Γ 6 pn) := by rw [ef724]; exact (hm_un (hrI 24 6 (by decide) (by decide) (by decide))).trans h281
              have h751 : f724 ((r 25)) = some (eI Γ 6 pe) := by rw [ef724]; exact (hm_un (hrI 25 6 (by decide) (by decide) (by decide))).trans h282
              have h752 : f724 ((r 26)) = some (eI Γ 6 ph) := by rw [ef724]; exact (hm_un (hrI 26 6 (by decide) (by decide) (by decide))).trans h283
              have h753 : f724 ((r 27)) = some (eI Γ 6 pg) := by rw [ef724]; exact (hm_un (hrI 27 6 (by decide) (by decide) (by decide))).trans h284
              have hFO : FO = true := bI_n.mp c289
              have hrw : (if FO = true then (gs i).2.2.2.2.2.1 + 1 else 0) = (gs i).2.2.2.2.2.1 + 1 := by rw [hFO]; rfl
              refine lv_aload_n hx hb dX8_push_112 rfl (lv_at hl 0 rfl) ?_
              refine gf_X8_29 hx hb hts hown hK hH h726 rfl dX8_push_113 ?_
              refine lv_iload_n hx hb dX8_push_116 rfl (lv_at hl 1 rfl) ?_
              refine hm_iald hx hb hK hH h725 (vp_in_nI hi8 (by decide)) dX8_push_117 ?_
              refine lv_topi (fun v754 ev754 => ?_)
              replace ev754 : v754 = ((if FO = true then (gs i).2.2.2.2.2.1 + 1 else 0)) := ev754.trans (by show upd _ i _ (nI i).toNatClampNeg = _; rw [nI_clamp (n := i) (by omega), hrw]; exact upd_s)
              subst ev754
              refine lv_aload_n hx hb dX8_push_118 rfl (lv_at hl 0 rfl) ?_
              refine gf_X8_32 hx hb hts hown hK hH h726 rfl dX8_push_119 ?_
              refine lv_iload_n hx hb dX8_push_122 rfl (lv_at hl 1 rfl) ?_
              refine hm_iald hx hb hK hH h733 (vp_in_nI hi8 (by decide)) dX8_push_123 ?_
              refine lv_topi (fun v755 ev755 => ?_)
              replace ev755 : v755 = (gs i).2.2.2.2.2.2.1 := ev755.trans (by show (gs (nI i).toNatClampNeg).2.2.2.2.2.2.1 = _; rw [nI_clamp (n := i) (by omega)])
              subst ev755
              refine lv_icmp_le (tgt := 139) hx hb dX8_push_124 (by decide) (fun c756 => ?_) (fun c756 => ?_)
              · have hmx : mxI (gs i).2.2.2.2.2.2.1 (if FO = true then (gs i).2.2.2.2.2.1 + 1 else 0) = (gs i).2.2.2.2.2.2.1 := by unfold mxI; rw [if_neg (Int32.not_lt.mpr c756)]
                refine lv_aload_n hx hb dX8_push_139 rfl (lv_at hl 0 rfl) ?_
                refine lv_aload_n hx hb dX8_push_140 rfl (lv_at hl 0 rfl) ?_
                refine gf_X8_13 hx hb hts hown hK hH h726 rfl dX8_push_141 ?_
                refine lv_iload_n hx hb dX8_push_144 rfl (lv_at hl 1 rfl) ?_
                refine hm_lald hx hb hK hH h728 (vp_in_nI hi8 (by decide)) dX8_push_145 ?_
                refine lv_topl (fun v757 ev757 => ?_)
                replace ev757 : v757 = b4 (gs i).2.1 := ev757.trans (by show b4 (gs (nI i).toNatClampNeg).2.1 = _; rw [nI_clamp (n := i) (by omega)])
                subst ev757
                refine lv_iload_n hx hb dX8_push_146 rfl (lv_at hl 2 rfl) ?_
                refine hm_callV (rest := []) (k := 2) q5_154 q5_156 q1_9 q5_157 q0_21 rfl nm_X8_pushed rfl hx hb hml hown hts hK hO hS hH hl.1 h726 (c_X8_pushed Γ l m0 r 0 (nI np) (nI ng) (nI nt) (nI kp) (nI rr) ck lim dz (nI (gainT (gs i).2.1 to)) hih mih fh msh msm mso sp rf (gs i).2.1 to f724 h726 ht15 hto) ⟨Nat.le_of_ble_eq_true rfl, Nat.le_of_ble_eq_true rfl⟩ ⟨Nat.le_of_ble_eq_true rfl, Nat.le_of_ble_eq_true rfl⟩ rfl (Nat.le_of_ble_eq_true rfl) dX8_push_147 (fun v_ fn758 H locs hp_ hH hS => ?_)
                obtain ⟨rfl, efn758⟩ := hp_
                refine W.eq (g2 := F0 m 150 ls [.long (b4 (pushT (gs i).2.1 to))]) rfl ?_
                have hmfn758 : fn758 m0 = some (eM r 0 (nI np) (nI ng) (nI nt) (nI kp) (nI rr) ck lim dz (nI (gainT (gs i).2.1 to)) hih mih fh msh msm mso sp rf) := by rw [efn758]; exact hm_us
                have h759 : fn758 ((r 0)) = some (eI Γ 4 mon) := by rw [efn758]; exact (hm_un (hm_ne h727 h726 (fun q => by cases q))).trans h727
                have h760 : fn758 ((r 1)) = some (eJ Γ 8 (fun i => b4 (gs i).2.1)) := by rw [efn758]; exact (hm_un (hm_ne h728 h726 (fun q => by cases q))).trans h728
                have h761 : fn758 ((r 2)) = some (eI Γ 8 (fun i => nI (gs i).2.2.1)) := by rw [efn758]; exact (hm_un (hm_ne h729 h726 (fun q => by cases q))).trans h729
                have h762 : fn758 ((r 3)) = some (eI Γ 8 (fun i => nI (gs i).1)) := by rw [efn758]; exact (hm_un (hm_ne h730 h726 (fun q => by cases q))).trans h730
                have h763 : fn758 ((r 4)) = some (eI Γ 8 (fun i => (gs i).2.2.2.1)) := by rw [efn758]; exact (hm_un (hm_ne h731 h726 (fun q => by cases q))).trans h731
                have h764 : fn758 ((r 5)) = some (eI Γ 8 (fun i => (gs i).2.2.2.2.1)) := by rw [efn758]; exact (hm_un (hm_ne h732 h726 (fun q => by cases q))).trans h732
                have h765 : fn758 ((r 6)) = some (eI Γ 8 (upd (fun i => (gs i).2.2.2.2.2.1) i (((gs i).2.2.2.2.2.1 + 1)))) := by rw [efn758]; exact (hm_un (hm_ne h725 h726 (fun q => by cases q))).trans h725
                have h766 : fn758 ((r 7)) = some (eI Γ 8 (fun i => (gs i).2.2.2.2.2.2.1)) := by rw [efn758]; exact (hm_un (hm_ne h733 h726 (fun q => by cases q))).trans h733
                have h767 : fn758 ((r 8)) = some (eI Γ 8 (fun i => (gs i).2.2.2.2.2.2.2.1)) := by rw [efn758]; exact (hm_un (hm_ne h734 h726 (fun q => by cases q))).trans h734
                have h768 : fn758 ((r 9)) = some (eZ Γ 8 (fun i => bI (gs i).2.2.2.2.2.2.2.2)) := by rw [efn758]; exact (hm_un (hm_ne h735 h726 (fun q => by cases q))).trans h735
                have h769 : fn758 ((r 10)) = some (eJ Γ 60 (fun i => b4 (ts i).2.1)) := by rw [efn758]; exact (hm_un (hm_ne h736 h726 (fun q => by cases q))).trans h736
                have h770 : fn758 ((r 11)) = some (eI Γ 60 (fun i => nI (ts i).2.2.1)) := by rw [efn758]; exact (hm_un (hm_ne h737 h726 (fun q => by cases q))).trans h737
                have h771 : fn758 ((r 12)) = some (eI Γ 60 (fun i => nI (ts i).1)) := by rw [efn758]; exact (hm_un (hm_ne h738 h726 (fun q => by cases q))).trans h738
                have h772 : fn758 ((r 13)) = some (eI Γ 60 (fun i => (ts i).2.2.2)) := by rw [efn758]; exact (hm_un (hm_ne h739 h726 (fun q => by cases q))).trans h739
                have h773 : fn758 ((r 14)) = some (eJ Γ 64 (fun j => (K j).1)) := by rw [efn758]; exact (hm_un (hm_ne h740 h726 (fun q => by cases q))).trans h740
                have h774 : fn758 ((r 15)) = some (eI Γ 64 (fun j => (K j).2.1)) := by rw [efn758]; exact (hm_un (hm_ne h741 h726 (fun q => by cases q))).trans h741
                have h775 : fn758 ((r 16)) = some (eI Γ 64 (fun j => (K j).2.2.1)) := by rw [efn758]; exact (hm_un (hm_ne h742 h726 (fun q => by cases q))).trans h742
                have h776 : fn758 ((r 17)) = some (eI Γ 64 (fun j => (K j).2.2.2.1)) := by rw [efn758]; exact (hm_un (hm_ne h743 h726 (fun q => by cases q))).trans h743
                have h777 : fn758 ((r 18)) = some (eI Γ 64 (fun j => (K j).2.2.2.2.1)) := by rw [efn758]; exact (hm_un (hm_ne h744 h726 (fun q => by cases q))).trans h744
                have h778 : fn758 ((r 19)) = some (eI Γ 64 (fun j => (K j).2.2.2.2.2.1)) := by rw [efn758]; exact (hm_un (hm_ne h745 h726 (fun q => by cases q))).trans h745
                have h779 : fn758 ((r 20)) = some (eI Γ 64 (fun j => (K j).2.2.2.2.2.2)) := by rw [efn758]; exact (hm_un (hm_ne h746 h726 (fun q => by cases q))).trans h746
                have h780 : fn758 ((r 21)) = some (eJ Γ 6 pb) := by rw [efn758]; exact (hm_un (hm_ne h747 h726 (fun q => by cases q))).trans h747
                have h781 : fn758 ((r 22)) = some (eI Γ 6 pz) := by rw [efn758]; exact (hm_un (hm_ne h748 h726 (fun q => by cases q))).trans h748
                have h782 : fn758 ((r 23)) = some (eI Γ 6 pd) := by rw [efn758]; exact (hm_un (hm_ne h749 h726 (fun q => by cases q))).trans h749
                have h783 : fn758 ((r 24)) = some (eI Γ 6 pn) := by rw [efn758]; exact (hm_un (hm_ne h750 h726 (fun q => by cases q))).trans h750
                have h784 : fn758 ((r 25)) = some (eI Γ 6 pe) := by rw [efn758]; exact (hm_un (hm_ne h751 h726 (fun q => by cases q))).trans h751
                have h785 : fn758 ((r 26)) = some (eI Γ 6 ph) := by rw [efn758]; exact (hm_un (hm_ne h752 h726 (fun q => by cases q))).trans h752
                have h786 : fn758 ((r 27)) = some (eI Γ 6 pg) := by rw [efn758]; exact (hm_un (hm_ne h753 h726 (fun q => by cases q))).trans h753
                refine lv_lstore_n (lv' := [(3, .long (b4 (pushT (gs i).2.1 to))), (0, .ref m0), (1, .int (nI i)), (2, .int (nI to))]) hx hb dX8_push_150 rfl hl (by decide) rfl (fun ls hl => ?_)
                refine lv_aload_n hx hb dX8_push_151 rfl (lv_at hl 1 rfl) ?_
                refine gf_X8_113 hx hb hts hown hK hH hmfn758 rfl dX8_push_152 ?_
                refine lv_istore (lv' := [(5, .int (nI (gainT (gs i).2.1 to))), (3, .long (b4 (pushT (gs i).2.1 to))), (0, .ref m0), (1, .int (nI i)), (2, .int (nI to))]) hx hb dX8_push_155 hl (by decide) rfl (fun ls hl => ?_)
                refine lv_aload_n hx hb dX8_push_157 rfl (lv_at hl 2 rfl) ?_
                refine gf_X8_13 hx hb hts hown hK hH hmfn758 rfl dX8_push_158 ?_
                refine lv_iload_n hx hb dX8_push_161 rfl (lv_at hl 3 rfl) ?_
                refine lv_aload_n hx hb dX8_push_162 rfl (lv_at hl 2 rfl) ?_
                refine lv_lload_n hx hb dX8_push_163 rfl (lv_at hl 1 rfl) ?_
                refine lv_aload_n hx hb dX8_push_164 rfl (lv_at hl 2 rfl) ?_
                refine gf_X8_17 hx hb hts hown hK hH hmfn758 rfl dX8_push_165 ?_
                refine lv_iload_n hx hb dX8_push_168 rfl (lv_at hl 3 rfl) ?_
                refine hm_iald hx hb hK hH h761 (vp_in_nI hi8 (by decide)) dX8_push_169 ?_
                refine lv_topi (fun v787 ev787 => ?_)
                replace ev787 : v787 = nI (gs i).2.2.1 := ev787.trans (by show nI (gs (nI i).toNatClampNeg).2.2.1 = _; rw [nI_clamp (n := i) (by omega)])
                subst ev787
                refine hm_callV (rest := [.int (nI i), .ref ((r 1))]) (k := 2) q5_127 q5_129 q1_9 q5_130 q0_18 rfl nm_X8_drawn rfl hx hb hml hown hts hK hO hS hH hl.1 hmfn758 (c_X8_drawn Γ l m0 r 0 (nI np) (nI ng) (nI nt) (nI kp) (nI rr) ck lim dz (nI (gainT (gs i).2.1 to)) hih mih fh msh msm mso sp rf (pushT (gs i).2.1 to) (gs i).2.2.1 fn758 hmfn758 (pushT_lt ht15 hto) hgz (push_gap hto hgo1)) ⟨Nat.le_of_ble_eq_true rfl, Nat.le_of_ble_eq_true rfl⟩ ⟨Nat.le_of_ble_eq_true rfl, Nat.le_of_ble_eq_true rfl⟩ rfl (Nat.le_of_ble_eq_true rfl) dX8_push_170 (fun v_ fn788 H locs hp_ hH hS => ?_)
                obtain ⟨rfl, efn788⟩ := hp_
                refine W.eq (g2 := F0 m 173 ls [.long (b4 (drawT (pushT (gs i).2.1 to) (gs i).2.2.1)), .int (nI i), .ref ((r 1))]) rfl ?_
                have hmfn788 : fn788 m0 = some (eM r 0 (nI np) (nI ng) (nI nt) (nI kp) (nI rr) ck lim (nI (nxt (nxt (gs i).2.2.1))) (nI (gainT (gs i).2.1 to)) hih mih fh msh msm mso sp rf) := by rw [efn788]; exact hm_us
                have h789 : fn788 ((r 0)) = some (eI Γ 4 mon) := by rw [efn788]; exact (hm_un (hm_ne h759 hmfn758 (fun q => by cases q))).trans h759
                have h790 : fn788 ((r 1)) = some (eJ Γ 8 (fun i => b4 (gs i).2.1)) := by rw [efn788]; exact (hm_un (hm_ne h760 hmfn758 (fun q => by cases q))).trans h760
                have h791 : fn788 ((r 2)) = some (eI Γ 8 (fun i => nI (gs i).2.2.1)) := by rw [efn788]; exact (hm_un (hm_ne h761 hmfn758 (fun q => by cases q))).trans h761
                have h792 : fn788 ((r 3)) = some (eI Γ 8 (fun i => nI (gs i).1)) := by rw [efn788]; exact (hm_un (hm_ne h762 hmfn758 (fun q => by cases q))).trans h762
                have h793 : fn788 ((r 4)) = some (eI Γ 8 (fun i => (gs i).2.2.2.1)) := by rw [efn788]; exact (hm_un (hm_ne h763 hmfn758 (fun q => by cases q))).trans h763
                have h794 : fn788 ((r 5)) = some (eI Γ 8 (fun i => (gs i).2.2.2.2.1)) := by rw [efn788]; exact (hm_un (hm_ne h764 hmfn758 (fun q => by cases q))).trans h764
                have h795 : fn788 ((r 6)) = some (eI Γ 8 (upd (fun i => (gs i).2.2.2.2.2.1) i (((gs i).2.2.2.2.2.1 + 1)))) := by rw [efn788]; exact (hm_un (hm_ne h765 hmfn758 (fun q => by cases q))).trans h765
                have h796 : fn788 ((r 7)) = some (eI Γ 8 (fun i => (gs i).2.2.2.2.2.2.1)) := by rw [efn788]; exact (hm_un (hm_ne h766 hmfn758 (fun q => by cases q))).trans h766
                have h797 : fn788 ((r 8)) = some (eI Γ 8 (fun i => (gs i).2.2.2.2.2.2.2.1)) := by rw [efn788]; exact (hm_un (hm_ne h767 hmfn758 (fun q => by cases q))).trans h767
                have h798 : fn788 ((r 9)) = some (eZ Γ 8 (fun i => bI (gs i).2.2.2.2.2.2.2.2)) := by rw [efn788]; exact (hm_un (hm_ne h768 hmfn758 (fun q => by cases q))).trans h768
                have h799 : fn788 ((r 10)) = some (eJ Γ 60 (fun i => b4 (ts i).2.1)) := by rw [efn788]; exact (hm_un (hm_ne h769 hmfn758 (fun q => by cases q))).trans h769
                have h800 : fn788 ((r 11)) = some (eI Γ 60 (fun i => nI (ts i).2.2.1)) := by rw [efn788]; exact (hm_un (hm_ne h770 hmfn758 (fun q => by cases q))).trans h770
                have h801 : fn788 ((r 12)) = some (eI Γ 60 (fun i => nI (ts i).1)) := by rw [efn788]; exact (hm_un (hm_ne h771 hmfn758 (fun q => by cases q))).trans h771
                have h802 : fn788 ((r 13)) = some (eI Γ 60 (fun i => (ts i).2.2.2)) := by rw [efn788]; exact (hm_un (hm_ne h772 hmfn758 (fun q => by cases q))).trans h772
                have h803 : fn788 ((r 14)) = some (eJ Γ 64 (fun j => (K j).1)) := by rw [efn788]; exact (hm_un (hm_ne h773 hmfn758 (fun q => by cases q))).trans h773
                have h804 : fn788 ((r 15)) = some (eI Γ 64 (fun j => (K j).2.1)) := by rw [efn788]; exact (hm_un (hm_ne h774 hmfn758 (fun q => by cases q))).trans h774
                have h805 : fn788 ((r 16)) = some (eI Γ 64 (fun j => (K j).2.2.1)) := by rw [efn788]; exact (hm_un (hm_ne h775 hmfn758 (fun q => by cases q))).trans h775
                have h806 : fn788 ((r 17)) = some (eI Γ 64 (fun j => (K j).2.2.2.1)) := by rw [efn788]; exact (hm_un (hm_ne h776 hmfn758 (fun q => by cases q))).trans h776
                have h807 : fn788 ((r 18)) = some (eI Γ 64 (fun j => (K j).2.2.2.2.1)) := by rw [efn788]; exact (hm_un (hm_ne h777 hmfn758 (fun q => by cases q))).trans h777
                have h808 : fn788 ((r 19)) = some (eI Γ 64 (fun j => (K j).2.2.2.2.2.1)) := by rw [efn788]; exact (hm_un (hm_ne h778 hmfn758 (fun q => by cases q))).trans h778
                have h809 : fn788 ((r 20)) = some (eI Γ 64 (fun j => (K j).2.2.2.2.2.2)) := by rw [efn788]; exact (hm_un (hm_ne h779 hmfn758 (fun q => by cases q))).trans h779
                have h810 : fn788 ((r 21)) = some (eJ Γ 6 pb) := by rw [efn788]; exact (hm_un (hm_ne h780 hmfn758 (fun q => by cases q))).trans h780
                have h811 : fn788 ((r 22)) = some (eI Γ 6 pz) := by rw [efn788]; exact (hm_un (hm_ne h781 hmfn758 (fun q => by cases q))).trans h781
                have h812 : fn788 ((r 23)) = some (eI Γ 6 pd) := by rw [efn788]; exact (hm_un (hm_ne h782 hmfn758 (fun q => by cases q))).trans h782
                have h813 : fn788 ((r 24)) = some (eI Γ 6 pn) := by rw [efn788]; exact (hm_un (hm_ne h783 hmfn758 (fun q => by cases q))).trans h783
                have h814 : fn788 ((r 25)) = some (eI Γ 6 pe) := by rw [efn788]; exact (hm_un (hm_ne h784 hmfn758 (fun q => by cases q))).trans h784
                have h815 : fn788 ((r 26)) = some (eI Γ 6 ph) := by rw [efn788]; exact (hm_un (hm_ne h785 hmfn758 (fun q => by cases q))).trans h785
                have h816 : fn788 ((r 27)) = some (eI Γ 6 pg) := by rw [efn788]; exact (hm_un (hm_ne h786 hmfn758 (fun q => by cases q))).trans h786
                refine hm_last hx hb hK hO hS hH h790 (vp_in_nI hi8 (by decide)) dX8_push_173 (fun H locs hH hS => ?_)
                rw [nI_clamp (n := i) (by omega)] at hH
                obtain ⟨f817, ef817⟩ : ∃ zz_, zz_ = hm_up fn788 ((r 1)) (eJ Γ 8 (vp_updL (fun i => b4 (gs i).2.1) i (b4 (drawT (pushT (gs i).2.1 to) (gs i).2.2.1)))) := ⟨_, rfl⟩
                have hH : hm_H Γ f817 H := by rw [ef817]; exact hH
                have h818 : f817 ((r 1)) = some (eJ Γ 8 (vp_updL (fun i => b4 (gs i).2.1) i (b4 (drawT (pushT (gs i).2.1 to) (gs i).2.2.1)))) := by rw [ef817]; exact hm_us
                have h819 : f817 m0 = some (eM r 0 (nI np) (nI ng) (nI nt) (nI kp) (nI rr) ck lim (nI (nxt (nxt (gs i).2.2.1))) (nI (gainT (gs i).2.1 to)) hih mih fh msh msm mso sp rf) := by rw [ef817]; exact (hm_un (hm_ne hmfn788 h790 (fun q => by cases q))).trans hmfn788
                have h820 : f817 ((r 0)) = some (eI Γ 4 mon) := by rw [ef817]; exact (hm_un (hrI 0 1 (by decide) (by decide) (by decide))).trans h789
                have h821 : f817 ((r 2)) = some (eI Γ 8 (fun i => nI (gs i).2.2.1)) := by rw [ef817]; exact (hm_un (hrI 2 1 (by decide) (by decide) (by decide))).trans h791
                have h822 : f817 ((r 3)) = some (eI Γ 8 (fun i => nI (gs i).1)) := by rw [ef817]; exact (hm_un (hrI 3 1 (by decide) (by decide) (by decide))).trans h792
                have h823 : f817 ((r 4)) = some (eI Γ 8 (fun i => (gs i).2.2.2.1)) := by rw [ef817]; exact (hm_un (hrI 4 1 (by decide) (by decide) (by decide))).trans h793
                have h824 : f817 ((r 5)) = some (eI Γ 8 (fun i => (gs i).2.2.2.2.1)) := by rw [ef817]; exact (hm_un (hrI 5 1 (by decide) (by decide) (by decide))).trans h794
                have h825 : f817 ((r 6)) = some (eI Γ 8 (upd (fun i => (gs i).2.2.2.2.2.1) i (((gs i).2.2.2.2.2.1 + 1)))) := by rw [ef817]; exact (hm_un (hrI 6 1 (by decide) (by decide) (by decide))).trans h795
                have h826 : f817 ((r 7)) = some (eI Γ 8 (fun i => (gs i).2.2.2.2.2.2.1)) := by rw [ef817]; exact (hm_un (hrI 7 1 (by decide) (by decide) (by decide))).trans h796
                have h827 : f817 ((r 8)) = some (eI Γ 8 (fun i => (gs i).2.2.2.2.2.2.2.1)) := by rw [ef817]; exact (hm_un (hrI 8 1 (by decide) (by decide) (by decide))).trans h797
                have h828 : f817 ((r 9)) = some (eZ Γ 8 (fun i => bI (gs i).2.2.2.2.2.2.2.2)) := by rw [ef817]; exact (hm_un (hrI 9 1 (by decide) (by decide) (by decide))).trans h798
                have h829 : f817 ((r 10)) = some (eJ Γ 60 (fun i => b4 (ts i).2.1)) := by rw [ef817]; exact (hm_un (hrI 10 1 (by decide) (by decide) (by decide))).trans h799
                have h830 : f817 ((r 11)) = some (eI Γ 60 (fun i => nI (ts i).2.2.1)) := by rw [ef817]; exact (hm_un (hrI 11 1 (by decide) (by decide) (by decide))).trans h800
                have h831 : f817 ((r 12)) = some (eI Γ 60 (fun i => nI (ts i).1)) := by rw [ef817]; exact (hm_un (hrI 12 1 (by decide) (by decide) (by decide))).trans h801
                have h832 : f817 ((r 13)) = some (eI Γ 60 (fun i => (ts i).2.2.2)) := by rw [ef817]; exact (hm_un (hrI 13 1 (by decide) (by decide) (by decide))).trans h802
                have h833 : f817 ((r 14)) = some (eJ Γ 64 (fun j => (K j).1)) := by rw [ef817]; exact (hm_un (hrI 14 1 (by decide) (by decide) (by decide))).trans h803
                have h834 : f817 ((r 15)) = some (eI Γ 64 (fun j => (K j).2.1)) := by rw [ef817]; exact (hm_un (hrI 15 1 (by decide) (by decide) (by decide))).trans h804
                have h835 : f817 ((r 16)) = some (eI Γ 64 (fun j => (K j).2.2.1)) := by rw [ef817]; exact (hm_un (hrI 16 1 (by decide) (by decide) (by decide))).trans h805
                have h836 : f817 ((r 17)) = some (eI Γ 64 (fun j => (K j).2.2.2.1)) := by rw [ef817]; exact (hm_un (hrI 17 1 (by decide) (by decide) (by decide))).trans h806
                have h837 : f817 ((r 18)) = some (eI Γ 64 (fun j => (K j).2.2.2.2.1)) := by rw [ef817]; exact (hm_un (hrI 18 1 (by decide) (by decide) (by decide))).trans h807
                have h838 : f817 ((r 19)) = some (eI Γ 64 (fun j => (K j).2.2.2.2.2.1)) := by rw [ef817]; exact (hm_un (hrI 19 1 (by decide) (by decide) (by decide))).trans h808
                have h839 : f817 ((r 20)) = some (eI Γ 64 (fun j => (K j).2.2.2.2.2.2)) := by rw [ef817]; exact (hm_un (hrI 20 1 (by decide) (by decide) (by decide))).trans h809
                have h840 : f817 ((r 21)) = some (eJ Γ 6 pb) := by rw [ef817]; exact (hm_un (hrI 21 1 (by decide) (by decide) (by decide))).trans h810
                have h841 : f817 ((r 22)) = some (eI Γ 6 pz) := by rw [ef817]; exact (hm_un (hrI 22 1 (by decide) (by decide) (by decide))).trans h811
                have h842 : f817 ((r 23)) = some (eI Γ 6 pd) := by rw [ef817]; exact (hm_un (hrI 23 1 (by decide) (by decide) (by decide))).trans h812
                have h843 : f817 ((r 24)) = some (eI Γ 6 pn) := by rw [ef817]; exact (hm_un (hrI 24 1 (by decide) (by decide) (by decide))).trans h813
                have h844 : f817 ((r 25)) = some (eI Γ 6 pe) := by rw [ef817]; exact (hm_un (hrI 25 1 (by decide) (by decide) (by decide))).trans h814
                have h845 : f817 ((r 26)) = some (eI Γ 6 ph) := by rw [ef817]; exact (hm_un (hrI 26 1 (by decide) (by decide) (by decide))).trans h815
                have h846 : f817 ((r 27)) = some (eI Γ 6 pg) := by rw [ef817]; exact (hm_un (hrI 27 1 (by decide) (by decide) (by decide))).trans h816
                refine lv_aload_n hx hb dX8_push_174 rfl (lv_at hl 2 rfl) ?_
                refine gf_X8_17 hx hb hts hown hK hH h819 rfl dX8_push_175 ?_
                refine lv_iload_n hx hb dX8_push_178 rfl (lv_at hl 3 rfl) ?_
                refine lv_aload_n hx hb dX8_push_179 rfl (lv_at hl 2 rfl) ?_
                refine gf_X8_135 hx hb hts hown hK hH h819 rfl dX8_push_180 ?_
                refine hm_iast hx hb hK hO hS hH h821 (vp_in_nI hi8 (by decide)) dX8_push_183 (fun H locs hH hS => ?_)
                rw [nI_clamp (n := i) (by omega)] at hH
                obtain ⟨f847, ef847⟩ : ∃ zz_, zz_ = hm_up f817 ((r 2)) (eI Γ 8 (upd (fun i => nI (gs i).2.2.1) i (nI (nxt (nxt (gs i).2.2.1))))) := ⟨_, rfl⟩
                have hH : hm_H Γ f847 H := by rw [ef847]; exact hH
                have h848 : f847 ((r 2)) = some (eI Γ 8 (upd (fun i => nI (gs i).2.2.1) i (nI (nxt (nxt (gs i).2.2.1))))) := by rw [ef847]; exact hm_us
                have h849 : f847 m0 = some (eM r 0 (nI np) (nI ng) (nI nt) (nI kp) (nI rr) ck lim (nI (nxt (nxt (gs i).2.2.1))) (nI (gainT (gs i).2.1 to)) hih mih fh msh msm mso sp rf) := by rw [ef847]; exact (hm_un (hm_ne h819 h821 (fun q => by cases q))).trans h819
                have h850 : f847 ((r 0)) = some (eI Γ 4 mon) := by rw [ef847]; exact (hm_un (hrI 0 2 (by decide) (by decide) (by decide))).trans h820
                have h851 : f847 ((r 1)) = some (eJ Γ 8 (vp_updL (fun i => b4 (gs i).2.1) i (b4 (drawT (pushT (gs i).2.1 to) (gs i).2.2.1)))) := by rw [ef847]; exact (hm_un (hrI 1 2 (by decide) (by decide) (by decide))).trans h818
                have h852 : f847 ((r 3)) = some (eI Γ 8 (fun i => nI (gs i).1)) := by rw [ef847]; exact (hm_un (hrI 3 2 (by decide) (by decide) (by decide))).trans h822
                have h853 : f847 ((r 4)) = some (eI Γ 8 (fun i => (gs i).2.2.2.1)) := by rw [ef847]; exact (hm_un (hrI 4 2 (by decide) (by decide) (by decide))).trans h823
                have h854 : f847 ((r 5)) = some (eI Γ 8 (fun i => (gs i).2.2.2.2.1)) := by rw [ef847]; exact (hm_un (hrI 5 2 (by decide) (by decide) (by decide))).trans h824
                have h855 : f847 ((r 6)) = some (eI Γ 8 (upd (fun i => (gs i).2.2.2.2.2.1) i (((gs i).2.2.2.2.2.1 + 1)))) := by rw [ef847]; exact (hm_un (hrI 6 2 (by decide) (by decide) (by decide))).trans h825
                have h856 : f847 ((r 7)) = some (eI Γ 8 (fun i => (gs i).2.2.2.2.2.2.1)) := by rw [ef847]; exact (hm_un (hrI 7 2 (by decide) (by decide) (by decide))).trans h826
                have h857 : f847 ((r 8)) = some (eI Γ 8 (fun i => (gs i).2.2.2.2.2.2.2.1)) := by rw [ef847]; exact (hm_un (hrI 8 2 (by decide) (by decide) (by decide))).trans h827
                have h858 : f847 ((r 9)) = some (eZ Γ 8 (fun i => bI (gs i).2.2.2.2.2.2.2.2)) := by rw [ef847]; exact (hm_un (hrI 9 2 (by decide) (by decide) (by decide))).trans h828
                have h859 : f847 ((r 10)) = some (eJ Γ 60 (fun i => b4 (ts i).2.1)) := by rw [ef847]; exact (hm_un (hrI 10 2 (by decide) (by decide) (by decide))).trans h829
                have h860 : f847 ((r 11)) = some (eI Γ 60 (fun i => nI (ts i).2.2.1)) := by rw [ef847]; exact (hm_un (hrI 11 2 (by decide) (by decide) (by decide))).trans h830
                have h861 : f847 ((r 12)) = some (eI Γ 60 (fun i => nI (ts i).1)) := by rw [ef847]; exact (hm_un (hrI 12 2 (by decide) (by decide) (by decide))).trans h831
                have h862 : f847 ((r 13)) = some (eI Γ 60 (fun i => (ts i).2.2.2)) := by rw [ef847]; exact (hm_un (hrI 13 2 (by decide) (by decide) (by decide))).trans h832
                have h863 : f847 ((r 14)) = some (eJ Γ 64 (fun j => (K j).1)) := by rw [ef847]; exact (hm_un (hrI 14 2 (by decide) (by decide) (by decide))).trans h833
                have h864 : f847 ((r 15)) = some (eI Γ 64 (fun j => (K j).2.1)) := by rw [ef847]; exact (hm_un (hrI 15 2 (by decide) (by decide) (by decide))).trans h834
                have h865 : f847 ((r 16)) = some (eI Γ 64 (fun j => (K j).2.2.1)) := by rw [ef847]; exact (hm_un (hrI 16 2 (by decide) (by decide) (by decide))).trans h835
                have h866 : f847 ((r 17)) = some (eI Γ 64 (fun j => (K j).2.2.2.1)) := by rw [ef847]; exact (hm_un (hrI 17 2 (by decide) (by decide) (by decide))).trans h836
                have h867 : f847 ((r 18)) = some (eI Γ 64 (fun j => (K j).2.2.2.2.1)) := by rw [ef847]; exact (hm_un (hrI 18 2 (by decide) (by decide) (by decide))).trans h837
                have h868 : f847 ((r 19)) = some (eI Γ 64 (fun j => (K j).2.2.2.2.2.1)) := by rw [ef847]; exact (hm_un (hrI 19 2 (by decide) (by decide) (by decide))).trans h838
                have h869 : f847 ((r 20)) = some (eI Γ 64 (fun j => (K j).2.2.2.2.2.2)) := by rw [ef847]; exact (hm_un (hrI 20 2 (by decide) (by decide) (by decide))).trans h839
                have h870 : f847 ((r 21)) = some (eJ Γ 6 pb) := by rw [ef847]; exact (hm_un (hrI 21 2 (by decide) (by decide) (by decide))).trans h840
                have h871 : f847 ((r 22)) = some (eI Γ 6 pz) := by rw [ef847]; exact (hm_un (hrI 22 2 (by decide) (by decide) (by decide))).trans h841
                have h872 : f847 ((r 23)) = some (eI Γ 6 pd) := by rw [ef847]; exact (hm_un (hrI 23 2 (by decide) (by decide) (by decide))).trans h842
                have h873 : f847 ((r 24)) = some (eI Γ 6 pn) := by rw [ef847]; exact (hm_un (hrI 24 2 (by decide) (by decide) (by decide))).trans h843
                have h874 : f847 ((r 25)) = some (eI Γ 6 pe) := by rw [ef847]; exact (hm_un (hrI 25 2 (by decide) (by decide) (by decide))).trans h844
                have h875 : f847 ((r 26)) = some (eI Γ 6 ph) := by rw [ef847]; exact (hm_un (hrI 26 2 (by decide) (by decide) (by decide))).trans h845
                have h876 : f847 ((r 27)) = some (eI Γ 6 pg) := by rw [ef847]; exact (hm_un (hrI 27 2 (by decide) (by decide) (by decide))).trans h846
                refine lv_aload_n hx hb dX8_push_184 rfl (lv_at hl 2 rfl) ?_
                refine gf_X8_23 hx hb hts hown hK hH h849 rfl dX8_push_185 ?_
                refine lv_iload_n hx hb dX8_push_188 rfl (lv_at hl 3 rfl) ?_
                refine lv_dup2_11 hx hb dX8_push_189 rfl rfl ?_
                refine hm_iald hx hb hK hH h853 (vp_in_nI hi8 (by decide)) dX8_push_190 ?_
                refine lv_topi (fun v877 ev877 => ?_)
                replace ev877 : v877 = (gs i).2.2.2.1 := ev877.trans (by show (gs (nI i).toNatClampNeg).2.2.2.1 = _; rw [nI_clamp (n := i) (by omega)])
                subst ev877
                refine lv_iload hx hb dX8_push_191 (lv_at hl 0 rfl) ?_
                refine lv_iadd hx hb dX8_push_193 ?_
                refine lv_topi (fun v878 ev878 => ?_)
                replace ev878 : v878 = ((gs i).2.2.2.1 + nI (gainT (gs i).2.1 to)) := ev878.trans (rfl)
                subst ev878
                refine hm_iast hx hb hK hO hS hH h853 (vp_in_nI hi8 (by decide)) dX8_push_194 (fun H locs hH hS => ?_)
                rw [nI_clamp (n := i) (by omega)] at hH
                obtain ⟨f879, ef879⟩ : ∃ zz_, zz_ = hm_up f847 ((r 4)) (eI Γ 8 (upd (fun i => (gs i).2.2.2.1) i (((gs i).2.2.2.1 + nI (gainT (gs i).2.1 to))))) := ⟨_, rfl⟩
                have hH : hm_H Γ f879 H := by rw [ef879]; exact hH
                have h880 : f879 ((r 4)) = some (eI Γ 8 (upd (fun i => (gs i).2.2.2.1) i (((gs i).2.2.2.1 + nI (gainT (gs i).2.1 to))))) := by rw [ef879]; exact hm_us
                have h881 : f879 m0 = some (eM r 0 (nI np) (nI ng) (nI nt) (nI kp) (nI rr) ck lim (nI (nxt (nxt (gs i).2.2.1))) (nI (gainT (gs i).2.1 to)) hih mih fh msh msm mso sp rf) := by rw [ef879]; exact (hm_un (hm_ne h849 h853 (fun q => by cases q))).trans h849
                have h882 : f879 ((r 0)) = some (eI Γ 4 mon) := by rw [ef879]; exact (hm_un (hrI 0 4 (by decide) (by decide) (by decide))).trans h850
                have h883 : f879 ((r 1)) = some (eJ Γ 8 (vp_updL (fun i => b4 (gs i).2.1) i (b4 (drawT (pushT (gs i).2.1 to) (gs i).2.2.1)))) := by rw [ef879]; exact (hm_un (hrI 1 4 (by decide) (by decide) (by decide))).trans h851
                have h884 : f879 ((r 2)) = some (eI Γ 8 (upd (fun i => nI (gs i).2.2.1) i (nI (nxt (nxt (gs i).2.2.1))))) := by rw [ef879]; exact (hm_un (hrI 2 4 (by decide) (by decide) (by decide))).trans h848
                have h885 : f879 ((r 3)) = some (eI Γ 8 (fun i => nI (gs i).1)) := by rw [ef879]; exact (hm_un (hrI 3 4 (by decide) (by decide) (by decide))).trans h852
                have h886 : f879 ((r 5)) = some (eI Γ 8 (fun i => (gs i).2.2.2.2.1)) := by rw [ef879]; exact (hm_un (hrI 5 4 (by decide) (by decide) (by decide))).trans h854
                have h887 : f879 ((r 6)) = some (eI Γ 8 (upd (fun i => (gs i).2.2.2.2.2.1) i (((gs i).2.2.2.2.2.1 + 1)))) := by rw [ef879]; exact (hm_un (hrI 6 4 (by decide) (by decide) (by decide))).trans h855
                have h888 : f879 ((r 7)) = some (eI Γ 8 (fun i => (gs i).2.2.2.2.2.2.1)) := by rw [ef879]; exact (hm_un (hrI 7 4 (by decide) (by decide) (by decide))).trans h856
                have h889 : f879 ((r 8)) = some (eI Γ 8 (fun i => (gs i).2.2.2.2.2.2.2.1)) := by rw [ef879]; exact (hm_un (hrI 8 4 (by decide) (by decide) (by decide))).trans h857
                have h890 : f879 ((r 9)) = some (eZ Γ 8 (fun i => bI (gs i).2.2.2.2.2.2.2.2)) := by rw [ef879]; exact (hm_un (hrI 9 4 (by decide) (by decide) (by decide))).trans h858
                have h891 : f879 ((r 10)) = some (eJ Γ 60 (fun i => b4 (ts i).2.1)) := by rw [ef879]; exact (hm_un (hrI 10 4 (by decide) (by decide) (by decide))).trans h859
                have h892 : f879 ((r 11)) = some (eI Γ 60 (fun i => nI (ts i).2.2.1)) := by rw [ef879]; exact (hm_un (hrI 11 4 (by decide) (by decide) (by decide))).trans h860
                have h893 : f879 ((r 12)) = some (eI Γ 60 (fun i => nI (ts i).1)) := by rw [ef879]; exact (hm_un (hrI 12 4 (by decide) (by decide) (by decide))).trans h861
                have h894 : f879 ((r 13)) = some (eI Γ 60 (fun i => (ts i).2.2.2)) := by rw [ef879]; exact (hm_un (hrI 13 4 (by decide) (by decide) (by decide))).trans h862
                have h895 : f879 ((r 14)) = some (eJ Γ 64 (fun j => (K j).1)) := by rw [ef879]; exact (hm_un (hrI 14 4 (by decide) (by decide) (by decide))).trans h863
                have h896 : f879 ((r 15)) = some (eI Γ 64 (fun j => (K j).2.1)) := by rw [ef879]; exact (hm_un (hrI 15 4 (by decide) (by decide) (by decide))).trans h864
                have h897 : f879 ((r 16)) = some (eI Γ 64 (fun j => (K j).2.2.1)) := by rw [ef879]; exact (hm_un (hrI 16 4 (by decide) (by decide) (by decide))).trans h865
                have h898 : f879 ((r 17)) = some (eI Γ 64 (fun j => (K j).2.2.2.1)) := by rw [ef879]; exact (hm_un (hrI 17 4 (by decide) (by decide) (by decide))).trans h866
                have h899 : f879 ((r 18)) = some (eI Γ 64 (fun j => (K j).2.2.2.2.1)) := by rw [ef879]; exact (hm_un (hrI 18 4 (by decide) (by decide) (by decide))).trans h867
                have h900 : f879 ((r 19)) = some (eI Γ 64 (fun j => (K j).2.2.2.2.2.1)) := by rw [ef879]; exact (hm_un (hrI 19 4 (by decide) (by decide) (by decide))).trans h868
                have h901 : f879 ((r 20)) = some (eI Γ 64 (fun j => (K j).2.2.2.2.2.2)) := by rw [ef879]; exact (hm_un (hrI 20 4 (by decide) (by decide) (by decide))).trans h869
                have h902 : f879 ((r 21)) = some (eJ Γ 6 pb) := by rw [ef879]; exact (hm_un (hrI 21 4 (by decide) (by decide) (by decide))).trans h870
                have h903 : f879 ((r 22)) = some (eI Γ 6 pz) := by rw [ef879]; exact (hm_un (hrI 22 4 (by decide) (by decide) (by decide))).trans h871
                have h904 : f879 ((r 23)) = some (eI Γ 6 pd) := by rw [ef879]; exact (hm_un (hrI 23 4 (by decide) (by decide) (by decide))).trans h872
                have h905 : f879 ((r 24)) = some (eI Γ 6 pn) := by rw [ef879]; exact (hm_un (hrI 24 4 (by decide) (by decide) (by decide))).trans h873
                have h906 : f879 ((r 25)) = some (eI Γ 6 pe) := by rw [ef879]; exact (hm_un (hrI 25 4 (by decide) (by decide) (by decide))).trans h874
                have h907 : f879 ((r 26)) = some (eI Γ 6 ph) := by rw [ef879]; exact (hm_un (hrI 26 4 (by decide) (by decide) (by decide))).trans h875
                have h908 : f879 ((r 27)) = some (eI Γ 6 pg) := by rw [ef879]; exact (hm_un (hrI 27 4 (by decide) (by decide) (by decide))).trans h876
                refine lv_aload_n hx hb dX8_push_195 rfl (lv_at hl 2 rfl) ?_
                refine gf_X8_26 hx hb hts hown hK hH h881 rfl dX8_push_196 ?_
                refine lv_iload_n hx hb dX8_push_199 rfl (lv_at hl 3 rfl) ?_
                refine lv_dup2_11 hx hb dX8_push_200 rfl rfl ?_
                refine hm_iald hx hb hK hH h886 (vp_in_nI hi8 (by decide)) dX8_push_201 ?_
                refine lv_topi (fun v909 ev909 => ?_)
                replace ev909 : v909 = (gs i).2.2.2.2.1 := ev909.trans (by show (gs (nI i).toNatClampNeg).2.2.2.2.1 = _; rw [nI_clamp (n := i) (by omega)])
                subst ev909
                refine lv_iconst (v := 1) hx hb dX8_push_202 (by decide) ?_
                refine lv_iadd hx hb dX8_push_203 ?_
                refine lv_topi (fun v910 ev910 => ?_)
                replace ev910 : v910 = ((gs i).2.2.2.2.1 + 1) := ev910.trans (rfl)
                subst ev910
                refine hm_iast hx hb hK hO hS hH h886 (vp_in_nI hi8 (by decide)) dX8_push_204 (fun H locs hH hS => ?_)
                rw [nI_clamp (n := i) (by omega)] at hH
                obtain ⟨f911, ef911⟩ : ∃ zz_, zz_ = hm_up f879 ((r 5)) (eI Γ 8 (upd (fun i => (gs i).2.2.2.2.1) i (((gs i).2.2.2.2.1 + 1)))) := ⟨_, rfl⟩
                have hH : hm_H Γ f911 H := by rw [ef911]; exact hH
                have h912 : f911 ((r 5)) = some (eI Γ 8 (upd (fun i => (gs i).2.2.2.2.1) i (((gs i).2.2.2.2.1 + 1)))) := by rw [ef911]; exact hm_us
                have h913 : f911 m0 = some (eM r 0 (nI np) (nI ng) (nI nt) (nI kp) (nI rr) ck lim (nI (nxt (nxt (gs i).2.2.1))) (nI (gainT (gs i).2.1 to)) hih mih fh msh msm mso sp rf) := by rw [ef911]; exact (hm_un (hm_ne h881 h886 (fun q => by cases q))).trans h881
                have h914 : f911 ((r 0)) = some (eI Γ 4 mon) := by rw [ef911]; exact (hm_un (hrI 0 5 (by decide) (by decide) (by decide))).trans h882
                have h915 : f911 ((r 1)) = some (eJ Γ 8 (vp_updL (fun i => b4 (gs i).2.1) i (b4 (drawT (pushT (gs i).2.1 to) (gs i).2.2.1)))) := by rw [ef911]; exact (hm_un (hrI 1 5 (by decide) (by decide) (by decide))).trans h883
                have h916 : f911 ((r 2)) = some (eI Γ 8 (upd (fun i => nI (gs i).2.2.1) i (nI (nxt (nxt (gs i).2.2.1))))) := by rw [ef911]; exact (hm_un (hrI 2 5 (by decide) (by decide) (by decide))).trans h884
                have h917 : f911 ((r 3)) = some (eI Γ 8 (fun i => nI (gs i).1)) := by rw [ef911]; exact (hm_un (hrI 3 5 (by decide) (by decide) (by decide))).trans h885
                have h918 : f911 ((r 4)) = some (eI Γ 8 (upd (fun i => (gs i).2.2.2.1) i (((gs i).2.2.2.1 + nI (gainT (gs i).2.1 to))))) := by rw [ef911]; exact (hm_un (hrI 4 5 (by decide) (by decide) (by decide))).trans h880
                have h919 : f911 ((r 6)) = some (eI Γ 8 (upd (fun i => (gs i).2.2.2.2.2.1) i (((gs i).2.2.2.2.2.1 + 1)))) := by rw [ef911]; exact (hm_un (hrI 6 5 (by decide) (by decide) (by decide))).trans h887
                have h920 : f911 ((r 7)) = some (eI Γ 8 (fun i => (gs i).2.2.2.2.2.2.1)) := by rw [ef911]; exact (hm_un (hrI 7 5 (by decide) (by decide) (by decide))).trans h888
                have h921 : f911 ((r 8)) = some (eI Γ 8 (fun i => (gs i).2.2.2.2.2.2.2.1)) := by rw [ef911]; exact (hm_un (hrI 8 5 (by decide) (by decide) (by decide))).trans h889
                have h922 : f911 ((r 9)) = some (eZ Γ 8 (fun i => bI (gs i).2.2.2.2.2.2.2.2)) := by rw [ef911]; exact (hm_un (hrI 9 5 (by decide) (by decide) (by decide))).trans h890
                have h923 : f911 ((r 10)) = some (eJ Γ 60 (fun i => b4 (ts i).2.1)) := by rw [ef911]; exact (hm_un (hrI 10 5 (by decide) (by decide) (by decide))).trans h891
                have h924 : f911 ((r 11)) = some (eI Γ 60 (fun i => nI (ts i).2.2.1)) := by rw [ef911]; exact (hm_un (hrI 11 5 (by decide) (by decide) (by decide))).trans h892
                have h925 : f911 ((r 12)) = some (eI Γ 60 (fun i => nI (ts i).1)) := by rw [ef911]; exact (hm_un (hrI 12 5 (by decide) (by decide) (by decide))).trans h893
                have h926 : f911 ((r 13)) = some (eI Γ 60 (fun i => (ts i).2.2.2)) := by rw [ef911]; exact (hm_un (hrI 13 5 (by decide) (by decide) (by decide))).trans h894
                have h927 : f911 ((r 14)) = some (eJ Γ 64 (fun j => (K j).1)) := by rw [ef911]; exact (hm_un (hrI 14 5 (by decide) (by decide) (by decide))).trans h895
                have h928 : f911 ((r 15)) = some (eI Γ 64 (fun j => (K j).2.1)) := by rw [ef911]; exact (hm_un (hrI 15 5 (by decide) (by decide) (by decide))).trans h896
                have h929 : f911 ((r 16)) = some (eI Γ 64 (fun j => (K j).2.2.1)) := by rw [ef911]; exact (hm_un (hrI 16 5 (by decide) (by decide) (by decide))).trans h897
                have h930 : f911 ((r 17)) = some (eI Γ 64 (fun j => (K j).2.2.2.1)) := by rw [ef911]; exact (hm_un (hrI 17 5 (by decide) (by decide) (by decide))).trans h898
                have h931 : f911 ((r 18)) = some (eI Γ 64 (fun j => (K j).2.2.2.2.1)) := by rw [ef911]; exact (hm_un (hrI 18 5 (by decide) (by decide) (by decide))).trans h899
                have h932 : f911 ((r 19)) = some (eI Γ 64 (fun j => (K j).2.2.2.2.2.1)) := by rw [ef911]; exact (hm_un (hrI 19 5 (by decide) (by decide) (by decide))).trans h900
                have h933 : f911 ((r 20)) = some (eI Γ 64 (fun j => (K j).2.2.2.2.2.2)) := by rw [ef911]; exact (hm_un (hrI 20 5 (by decide) (by decide) (by decide))).trans h901
                have h934 : f911 ((r 21)) = some (eJ Γ 6 pb) := by rw [ef911]; exact (hm_un (hrI 21 5 (by decide) (by decide) (by decide))).trans h902
                have h935 : f911 ((r 22)) = some (eI Γ 6 pz) := by rw [ef911]; exact (hm_un (hrI 22 5 (by decide) (by decide) (by decide))).trans h903
                have h936 : f911 ((r 23)) = some (eI Γ 6 pd) := by rw [ef911]; exact (hm_un (hrI 23 5 (by decide) (by decide) (by decide))).trans h904
                have h937 : f911 ((r 24)) = some (eI Γ 6 pn) := by rw [ef911]; exact (hm_un (hrI 24 5 (by decide) (by decide) (by decide))).trans h905
                have h938 : f911 ((r 25)) = some (eI Γ 6 pe) := by rw [ef911]; exact (hm_un (hrI 25 5 (by decide) (by decide) (by decide))).trans h906
                have h939 : f911 ((r 26)) = some (eI Γ 6 ph) := by rw [ef911]; exact (hm_un (hrI 26 5 (by decide) (by decide) (by decide))).trans h907
                have h940 : f911 ((r 27)) = some (eI Γ 6 pg) := by rw [ef911]; exact (hm_un (hrI 27 5 (by decide) (by decide) (by decide))).trans h908
                refine lv_iload hx hb dX8_push_205 (lv_at hl 0 rfl) ?_
                have hfr9 : hm_fr (mS m0 r) f f911 := by
                  rw [ef911, ef879, ef847, ef817, efn788, efn758, ef724, efn255, efn192, efn126, efn1]
                  exact (((((((((((hm_fr.rf (S := mS m0 r)).up mS_0).up mS_0).up mS_0).up mS_0).up (mS_r (by decide))).up mS_0).up mS_0).up (mS_r (by decide))).up (mS_r (by decide))).up (mS_r (by decide))).up (mS_r (by decide))
                exact hm_iret hx hb hr hlocks hS hH (⟨Or.inl ⟨by rw [hb1]; (try rw [hix]); rw [hb125]; (try rw [hit]); rw [hb254]; rfl, by rw [hix, hit], MW.mk h913 ⟨⟨h927, h928, h929, h930, h931, h932, h933⟩, ⟨_, _, _, _, _, _, _, h934, h935, h936, h937, h938, h939, h940⟩, h914, ⟨(by rw [hix, hit, ← eFO]; exact h915.trans (congrArg some (congrArg (eJ Γ 8) (updL_fun (fun x : GS => b4 (x).2.1) gs i ((gs i).1, drawT (pushT (gs i).2.1 to) (gs i).2.2.1, nxt (nxt (gs i).2.2.1), (gs i).2.2.2.1 + nI (gainT (gs i).2.1 to), (gs i).2.2.2.2.1 + 1, (if FO then (gs i).2.2.2.2.2.1 + 1 else 0), mxI (gs i).2.2.2.2.2.2.1 (if FO then (gs i).2.2.2.2.2.1 + 1 else 0), (gs i).2.2.2.2.2.2.2.1, (gs i).2.2.2.2.2.2.2.2))))), (by rw [hix, hit, ← eFO]; exact h916.trans (congrArg some (congrArg (eI Γ 8) (upd_fun (fun x : GS => nI (x).2.2.1) gs i ((gs i).1, drawT (pushT (gs i).2.1 to) (gs i).2.2.1, nxt (nxt (gs i).2.2.1), (gs i).2.2.2.1 + nI (gainT (gs i).2.1 to), (gs i).2.2.2.2.1 + 1, (if FO then (gs i).2.2.2.2.2.1 + 1 else 0), mxI (gs i).2.2.2.2.2.2.1 (if FO then (gs i).2.2.2.2.2.1 + 1 else 0), (gs i).2.2.2.2.2.2.2.1, (gs i).2.2.2.2.2.2.2.2))))), (by rw [hix, hit, ← eFO]; exact h917.trans (congrArg some (congrArg (eI Γ 8) (gset_p (fun x : GS => nI (x).1) (gs := gs) (i := i) (y := ((gs i).1, drawT (pushT (gs i).2.1 to) (gs i).2.2.1, nxt (nxt (gs i).2.2.1), (gs i).2.2.2.1 + nI (gainT (gs i).2.1 to), (gs i).2.2.2.2.1 + 1, (if FO then (gs i).2.2.2.2.2.1 + 1 else 0), mxI (gs i).2.2.2.2.2.2.1 (if FO then (gs i).2.2.2.2.2.1 + 1 else 0), (gs i).2.2.2.2.2.2.2.1, (gs i).2.2.2.2.2.2.2.2)) rfl)))), (by rw [hix, hit, ← eFO]; exact h918.trans (congrArg some (congrArg (eI Γ 8) (upd_fun (fun x : GS => (x).2.2.2.1) gs i ((gs i).1, drawT (pushT (gs i).2.1 to) (gs i).2.2.1, nxt (nxt (gs i).2.2.1), (gs i).2.2.2.1 + nI (gainT (gs i).2.1 to), (gs i).2.2.2.2.1 + 1, (if FO then (gs i).2.2.2.2.2.1 + 1 else 0), mxI (gs i).2.2.2.2.2.2.1 (if FO then (gs i).2.2.2.2.2.1 + 1 else 0), (gs i).2.2.2.2.2.2.2.1, (gs i).2.2.2.2.2.2.2.2))))), (by rw [hix, hit, ← eFO]; exact h912.trans (congrArg some (congrArg (eI Γ 8) (upd_fun (fun x : GS => (x).2.2.2.2.1) gs i ((gs i).1, drawT (pushT (gs i).2.1 to) (gs i).2.2.1, nxt (nxt (gs i).2.2.1), (gs i).2.2.2.1 + nI (gainT (gs i).2.1 to), (gs i).2.2.2.2.1 + 1, (if FO then (gs i).2.2.2.2.2.1 + 1 else 0), mxI (gs i).2.2.2.2.2.2.1 (if FO then (gs i).2.2.2.2.2.1 + 1 else 0), (gs i).2.2.2.2.2.2.2.1, (gs i).2.2.2.2.2.2.2.2))))), (by rw [hix, hit, ← eFO]; have z_ := h919; rw [← hrw] at z_; exact z_.trans (congrArg some (congrArg (eI Γ 8) (upd_fun (fun x : GS => (x).2.2.2.2.2.1) gs i ((gs i).1, drawT (pushT (gs i).2.1 to) (gs i).2.2.1, nxt (nxt (gs i).2.2.1), (gs i).2.2.2.1 + nI (gainT (gs i).2.1 to), (gs i).2.2.2.2.1 + 1, (if FO then (gs i).2.2.2.2.2.1 + 1 else 0), mxI (gs i).2.2.2.2.2.2.1 (if FO then (gs i).2.2.2.2.2.1 + 1 else 0), (gs i).2.2.2.2.2.2.2.1, (gs i).2.2.2.2.2.2.2.2))))), (by rw [hix, hit, ← eFO]; exact h920.trans (congrArg some (congrArg (eI Γ 8) (gset_p (fun x : GS => (x).2.2.2.2.2.2.1) (gs := gs) (i := i) (y := ((gs i).1, drawT (pushT (gs i).2.1 to) (gs i).2.2.1, nxt (nxt (gs i).2.2.1), (gs i).2.2.2.1 + nI (gainT (gs i).2.1 to), (gs i).2.2.2.2.1 + 1, (if FO then (gs i).2.2.2.2.2.1 + 1 else 0), mxI (gs i).2.2.2.2.2.2.1 (if FO then (gs i).2.2.2.2.2.1 + 1 else 0), (gs i).2.2.2.2.2.2.2.1, (gs i).2.2.2.2.2.2.2.2)) hmx)))), (by rw [hix, hit, ← eFO]; exact h921.trans (congrArg some (congrArg (eI Γ 8) (gset_p (fun x : GS => (x).2.2.2.2.2.2.2.1) (gs := gs) (i := i) (y := ((gs i).1, drawT (pushT (gs i).2.1 to) (gs i).2.2.1, nxt (nxt (gs i).2.2.1), (gs i).2.2.2.1 + nI (gainT (gs i).2.1 to), (gs i).2.2.2.2.1 + 1, (if FO then (gs i).2.2.2.2.2.1 + 1 else 0), mxI (gs i).2.2.2.2.2.2.1 (if FO then (gs i).2.2.2.2.2.1 + 1 else 0), (gs i).2.2.2.2.2.2.2.1, (gs i).2.2.2.2.2.2.2.2)) rfl)))), (by rw [hix, hit, ← eFO]; exact h922.trans (congrArg some (congrArg (eZ Γ 8) (gset_p (fun x : GS => bI (x).2.2.2.2.2.2.2.2) (gs := gs) (i := i) (y := ((gs i).1, drawT (pushT (gs i).2.1 to) (gs i).2.2.1, nxt (nxt (gs i).2.2.1), (gs i).2.2.2.1 + nI (gainT (gs i).2.1 to), (gs i).2.2.2.2.1 + 1, (if FO then (gs i).2.2.2.2.2.1 + 1 else 0), mxI (gs i).2.2.2.2.2.2.1 (if FO then (gs i).2.2.2.2.2.1 + 1 else 0), (gs i).2.2.2.2.2.2.2.1, (gs i).2.2.2.2.2.2.2.2)) rfl))))⟩, h923, h924, h925, h926⟩⟩, hfr9.k⟩) (Nat.le_of_ble_eq_true rfl) (Nat.le_of_ble_eq_true rfl) dX8_push_207
              · refine lv_aload_n hx hb dX8_push_127 rfl (lv_at hl 0 rfl) ?_
                refine gf_X8_32 hx hb hts hown hK hH h726 rfl dX8_push_128 ?_
                refine lv_iload_n hx hb dX8_push_131 rfl (lv_at hl 1 rfl) ?_
                refine lv_aload_n hx hb dX8_push_132 rfl (lv_at hl 0 rfl) ?_
                refine gf_X8_29 hx hb hts hown hK hH h726 rfl dX8_push_133 ?_
                refine lv_iload_n hx hb dX8_push_136 rfl (lv_at hl 1 rfl) ?_
                refine hm_iald hx hb hK hH h725 (vp_in_nI hi8 (by decide)) dX8_push_137 ?_
                refine lv_topi (fun v941 ev941 => ?_)
                replace ev941 : v941 = ((if FO = true then (gs i).2.2.2.2.2.1 + 1 else 0)) := ev941.trans (by show upd _ i _ (nI i).toNatClampNeg = _; rw [nI_clamp (n := i) (by omega), hrw]; exact upd_s)
                subst ev941
                refine hm_iast hx hb hK hO hS hH h733 (vp_in_nI hi8 (by decide)) dX8_push_138 (fun H locs hH hS => ?_)
                rw [nI_clamp (n := i) (by omega)] at hH
                obtain ⟨f942, ef942⟩ : ∃ zz_, zz_ = hm_up f724 ((r 7)) (eI Γ 8 (upd (fun i => (gs i).2.2.2.2.2.2.1) i (((if FO = true then (gs i).2.2.2.2.2.1 + 1 else 0))))) := ⟨_, rfl⟩
                have hH : hm_H Γ f942 H := by rw [ef942]; exact hH
                have h943 : f942 ((r 7)) = some (eI Γ 8 (upd (fun i => (gs i).2.2.2.2.2.2.1) i (((if FO = true then (gs i).2.2.2.2.2.1 + 1 else 0))))) := by rw [ef942]; exact hm_us
                have h944 : f942 m0 = some (eM r 0 (nI np) (nI ng) (nI nt) (nI kp) (nI rr) ck lim dz (nI (gainT (gs i).2.1 to)) hih mih fh msh msm mso sp rf) := by rw [ef942]; exact (hm_un (hm_ne h726 h733 (fun q => by cases q))).trans h726
                have h945 : f942 ((r 0)) = some (eI Γ 4 mon) := by rw [ef942]; exact (hm_un (hrI 0 7 (by decide) (by decide) (by decide))).trans h727
                have h946 : f942 ((r 1)) = some (eJ Γ 8 (fun i => b4 (gs i).2.1)) := by rw [ef942]; exact (hm_un (hrI 1 7 (by decide) (by decide) (by decide))).trans h728
                have h947 : f942 ((r 2)) = some (eI Γ 8 (fun i => nI (gs i).2.2.1)) := by rw [ef942]; exact (hm_un (hrI 2 7 (by decide) (by decide) (by decide))).trans h729
                have h948 : f942 ((r 3)) = some (eI Γ 8 (fun i => nI (gs i).1)) := by rw [ef942]; exact (hm_un (hrI 3 7 (by decide) (by decide) (by decide))).trans h730
                have h949 : f942 ((r 4)) = some (eI Γ 8 (fun i => (gs i).2.2.2.1)) := by rw [ef942]; exact (hm_un (hrI 4 7 (by decide) (by decide) (by decide))).trans h731
                have h950 : f942 ((r 5)) = some (eI Γ 8 (fun i => (gs i).2.2.2.2.1)) := by rw [ef942]; exact (hm_un (hrI 5 7 (by decide) (by decide) (by decide))).trans h732
                have h951 : f942 ((r 6)) = some (eI Γ 8 (upd (fun i => (gs i).2.2.2.2.2.1) i (((gs i).2.2.2.2.2.1 + 1)))) := by rw [ef942]; exact (hm_un (hrI 6 7 (by decide) (by decide) (by decide))).trans h725
                have h952 : f942 ((r 8)) = some (eI Γ 8 (fun i => (gs i).2.2.2.2.2.2.2.1)) := by rw [ef942]; exact (hm_un (hrI 8 7 (by decide) (by decide) (by decide))).trans h734
                have h953 : f942 ((r 9)) = some (eZ Γ 8 (fun i => bI (gs i).2.2.2.2.2.2.2.2)) := by rw [ef942]; exact (hm_un (hrI 9 7 (by decide) (by decide) (by decide))).trans h735
                have h954 : f942 ((r 10)) = some (eJ Γ 60 (fun i => b4 (ts i).2.1)) := by rw [ef942]; exact (hm_un (hrI 10 7 (by decide) (by decide) (by decide))).trans h736
                have h955 : f942 ((r 11)) = some (eI Γ 60 (fun i => nI (ts i).2.2.1)) := by rw [ef942]; exact (hm_un (hrI 11 7 (by decide) (by decide) (by decide))).trans h737
                have h956 : f942 ((r 12)) = some (eI Γ 60 (fun i => nI (ts i).1)) := by rw [ef942]; exact (hm_un (hrI 12 7 (by decide) (by decide) (by decide))).trans h738
                have h957 : f942 ((r 13)) = some (eI Γ 60 (fun i => (ts i).2.2.2)) := by rw [ef942]; exact (hm_un (hrI 13 7 (by decide) (by decide) (by decide))).trans h739
                have h958 : f942 ((r 14)) = some (eJ Γ 64 (fun j => (K j).1)) := by rw [ef942]; exact (hm_un (hrI 14 7 (by decide) (by decide) (by decide))).trans h740
                have h959 : f942 ((r 15)) = some (eI Γ 64 (fun j => (K j).2.1)) := by rw [ef942]; exact (hm_un (hrI 15 7 (by decide) (by decide) (by decide))).trans h741
                have h960 : f942 ((r 16)) = some (eI Γ 64 (fun j => (K j).2.2.1)) := by rw [ef942]; exact (hm_un (hrI 16 7 (by decide) (by decide) (by decide))).trans h742
                have h961 : f942 ((r 17)) = some (eI Γ 64 (fun j => (K j).2.2.2.1)) := by rw [ef942]; exact (hm_un (hrI 17 7 (by decide) (by decide) (by decide))).trans h743
                have h962 : f942 ((r 18)) = some (eI Γ 64 (fun j => (K j).2.2.2.2.1)) := by rw [ef942]; exact (hm_un (hrI 18 7 (by decide) (by decide) (by decide))).trans h744
                have h963 : f942 ((r 19)) = some (eI Γ 64 (fun j => (K j).2.2.2.2.2.1)) := by rw [ef942]; exact (hm_un (hrI 19 7 (by decide) (by decide) (by decide))).trans h745
                have h964 : f942 ((r 20)) = some (eI Γ 64 (fun j => (K j).2.2.2.2.2.2)) := by rw [ef942]; exact (hm_un (hrI 20 7 (by decide) (by decide) (by decide))).trans h746
                have h965 : f942 ((r 21)) = some (eJ Γ 6 pb) := by rw [ef942]; exact (hm_un (hrI 21 7 (by decide) (by decide) (by decide))).trans h747
                have h966 : f942 ((r 22)) = some (eI Γ 6 pz) := by rw [ef942]; exact (hm_un (hrI 22 7 (by decide) (by decide) (by decide))).trans h748
                have h967 : f942 ((r 23)) = some (eI Γ 6 pd) := by rw [ef942]; exact (hm_un (hrI 23 7 (by decide) (by decide) (by decide))).trans h749
                have h968 : f942 ((r 24)) = some (eI Γ 6 pn) := by rw [ef942]; exact (hm_un (hrI 24 7 (by decide) (by decide) (by decide))).trans h750
                have h969 : f942 ((r 25)) = some (eI Γ 6 pe) := by rw [ef942]; exact (hm_un (hrI 25 7 (by decide) (by decide) (by decide))).trans h751
                have h970 : f942 ((r 26)) = some (eI Γ 6 ph) := by rw [ef942]; exact (hm_un (hrI 26 7 (by decide) (by decide) (by decide))).trans h752
                have h971 : f942 ((r 27)) = some (eI Γ 6 pg) := by rw [ef942]; exact (hm_un (hrI 27 7 (by decide) (by decide) (by decide))).trans h753
                have hmx : mxI (gs i).2.2.2.2.2.2.1 (if FO = true then (gs i).2.2.2.2.2.1 + 1 else 0) = (if FO = true then (gs i).2.2.2.2.2.1 + 1 else 0) := by unfold mxI; rw [if_pos (Int32.not_le.mp c756)]
                refine lv_aload_n hx hb dX8_push_139 rfl (lv_at hl 0 rfl) ?_
                refine lv_aload_n hx hb dX8_push_140 rfl (lv_at hl 0 rfl) ?_
                refine gf_X8_13 hx hb hts hown hK hH h944 rfl dX8_push_141 ?_
                refine lv_iload_n hx hb dX8_push_144 rfl (lv_at hl 1 rfl) ?_
                refine hm_lald hx hb hK hH h946 (vp_in_nI hi8 (by decide)) dX8_push_145 ?_
                refine lv_topl (fun v972 ev972 => ?_)
                replace ev972 : v972 = b4 (gs i).2.1 := ev972.trans (by show b4 (gs (nI i).toNatClampNeg).2.1 = _; rw [nI_clamp (n := i) (by omega)])
                subst ev972
                refine lv_iload_n hx hb dX8_push_146 rfl (lv_at hl 2 rfl) ?_
                refine hm_callV (rest := []) (k := 2) q5_154 q5_156 q1_9 q5_157 q0_21 rfl nm_X8_pushed rfl hx hb hml hown hts hK hO hS hH hl.1 h944 (c_X8_pushed Γ l m0 r 0 (nI np) (nI ng) (nI nt) (nI kp) (nI rr) ck lim dz (nI (gainT (gs i).2.1 to)) hih mih fh msh msm mso sp rf (gs i).2.1 to f942 h944 ht15 hto) ⟨Nat.le_of_ble_eq_true rfl, Nat.le_of_ble_eq_true rfl⟩ ⟨Nat.le_of_ble_eq_true rfl, Nat.le_of_ble_eq_true rfl⟩ rfl (Nat.le_of_ble_eq_true rfl) dX8_push_147 (fun v_ fn973 H locs hp_ hH hS => ?_)
                obtain ⟨rfl, efn973⟩ := hp_
                refine W.eq (g2 := F0 m 150 ls [.long (b4 (pushT (gs i).2.1 to))]) rfl ?_
                have hmfn973 : fn973 m0 = some (eM r 0 (nI np) (nI ng) (nI nt) (nI kp) (nI rr) ck lim dz (nI (gainT (gs i).2.1 to)) hih mih fh msh msm mso sp rf) := by rw [efn973]; exact hm_us
                have h974 : fn973 ((r 0)) = some (eI Γ 4 mon) := by rw [efn973]; exact (hm_un (hm_ne h945 h944 (fun q => by cases q))).trans h945
                have h975 : fn973 ((r 1)) = some (eJ Γ 8 (fun i => b4 (gs i).2.1)) := by rw [efn973]; exact (hm_un (hm_ne h946 h944 (fun q => by cases q))).trans h946
                have h976 : fn973 ((r 2)) = some (eI Γ 8 (fun i => nI (gs i).2.2.1)) := by rw [efn973]; exact (hm_un (hm_ne h947 h944 (fun q => by cases q))).trans h947
                have h977 : fn973 ((r 3)) = some (eI Γ 8 (fun i => nI (gs i).1)) := by rw [efn973]; exact (hm_un (hm_ne h948 h944 (fun q => by cases q))).trans h948
                have h978 : fn973 ((r 4)) = some (eI Γ 8 (fun i => (gs i).2.2.2.1)) := by rw [efn973]; exact (hm_un (hm_ne h949 h944 (fun q => by cases q))).trans h949
                have h979 : fn973 ((r 5)) = some (eI Γ 8 (fun i => (gs i).2.2.2.2.1)) := by rw [efn973]; exact (hm_un (hm_ne h950 h944 (fun q => by cases q))).trans h950
                have h980 : fn973 ((r 6)) = some (eI Γ 8 (upd (fun i => (gs i).2.2.2.2.2.1) i (((gs i).2.2.2.2.2.1 + 1)))) := by rw [efn973]; exact (hm_un (hm_ne h951 h944 (fun q => by cases q))).trans h951
                have h981 : fn973 ((r 7)) = some (eI Γ 8 (upd (fun i => (gs i).2.2.2.2.2.2.1) i (((if FO = true then (gs i).2.2.2.2.2.1 + 1 else 0))))) := by rw [efn973]; exact (hm_un (hm_ne h943 h944 (fun q => by cases q))).trans h943
                have h982 : fn973 ((r 8)) = some (eI Γ 8 (fun i => (gs i).2.2.2.2.2.2.2.1)) := by rw [efn973]; exact (hm_un (hm_ne h952 h944 (fun q => by cases q))).trans h952
                have h983 : fn973 ((r 9)) = some (eZ Γ 8 (fun i => bI (gs i).2.2.2.2.2.2.2.2)) := by rw [efn973]; exact (hm_un (hm_ne h953 h944 (fun q => by cases q))).trans h953
                have h984 : fn973 ((r 10)) = some (eJ Γ 60 (fun i => b4 (ts i).2.1)) := by rw [efn973]; exact (hm_un (hm_ne h954 h944 (fun q => by cases q))).trans h954
                have h985 : fn973 ((r 11)) = some (eI Γ 60 (fun i => nI (ts i).2.2.1)) := by rw [efn973]; exact (hm_un (hm_ne h955 h944 (fun q => by cases q))).trans h955
                have h986 : fn973 ((r 12)) = some (eI Γ 60 (fun i => nI (ts i).1)) := by rw [efn973]; exact (hm_un (hm_ne h956 h944 (fun q => by cases q))).trans h956
                have h987 : fn973 ((r 13)) = some (eI Γ 60 (fun i => (ts i).2.2.2)) := by rw [efn973]; exact (hm_un (hm_ne h957 h944 (fun q => by cases q))).trans h957
                have h988 : fn973 ((r 14)) = some (eJ Γ 64 (fun j => (K j).1)) := by rw [efn973]; exact (hm_un (hm_ne h958 h944 (fun q => by cases q))).trans h958
                have h989 : fn973 ((r 15)) = some (eI Γ 64 (fun j => (K j).2.1)) := by rw [efn973]; exact (hm_un (hm_ne h959 h944 (fun q => by cases q))).trans h959
                have h990 : fn973 ((r 16)) = some (eI Γ 64 (fun j => (K j).2.2.1)) := by rw [efn973]; exact (hm_un (hm_ne h960 h944 (fun q => by cases q))).trans h960
                have h991 : fn973 ((r 17)) = some (eI Γ 64 (fun j => (K j).2.2.2.1)) := by rw [efn973]; exact (hm_un (hm_ne h961 h944 (fun q => by cases q))).trans h961
                have h992 : fn973 ((r 18)) = some (eI Γ 64 (fun j => (K j).2.2.2.2.1)) := by rw [efn973]; exact (hm_un (hm_ne h962 h944 (fun q => by cases q))).trans h962
                have h993 : fn973 ((r 19)) = some (eI Γ 64 (fun j => (K j).2.2.2.2.2.1)) := by rw [efn973]; exact (hm_un (hm_ne h963 h944 (fun q => by cases q))).trans h963
                have h994 : fn973 ((r 20)) = some (eI Γ 64 (fun j => (K j).2.2.2.2.2.2)) := by rw [efn973]; exact (hm_un (hm_ne h964 h944 (fun q => by cases q))).trans h964
                have h995 : fn973 ((r 21)) = some (eJ Γ 6 pb) := by rw [efn973]; exact (hm_un (hm_ne h965 h944 (fun q => by cases q))).trans h965
                have h996 : fn973 ((r 22)) = some (eI Γ 6 pz) := by rw [efn973]; exact (hm_un (hm_ne h966 h944 (fun q => by cases q))).trans h966
                have h997 : fn973 ((r 23)) = some (eI Γ 6 pd) := by rw [efn973]; exact (hm_un (hm_ne h967 h944 (fun q => by cases q))).trans h967
                have h998 : fn973 ((r 24)) = some (eI Γ 6 pn) := by rw [efn973]; exact (hm_un (hm_ne h968 h944 (fun q => by cases q))).trans h968
                have h999 : fn973 ((r 25)) = some (eI Γ 6 pe) := by rw [efn973]; exact (hm_un (hm_ne h969 h944 (fun q => by cases q))).trans h969
                have h1000 : fn973 ((r 26)) = some (eI Γ 6 ph) := by rw [efn973]; exact (hm_un (hm_ne h970 h944 (fun q => by cases q))).trans h970
                have h1001 : fn973 ((r 27)) = some (eI Γ 6 pg) := by rw [efn973]; exact (hm_un (hm_ne h971 h944 (fun q => by cases q))).trans h971
                refine lv_lstore_n (lv' := [(3, .long (b4 (pushT (gs i).2.1 to))), (0, .ref m0), (1, .int (nI i)), (2, .int (nI to))]) hx hb dX8_push_150 rfl hl (by decide) rfl (fun ls hl => ?_)
                refine lv_aload_n hx hb dX8_push_151 rfl (lv_at hl 1 rfl) ?_
                refine gf_X8_113 hx hb hts hown hK hH hmfn973 rfl dX8_push_152 ?_
                refine lv_istore (lv' := [(5, .int (nI (gainT (gs i).2.1 to))), (3, .long (b4 (pushT (gs i).2.1 to))), (0, .ref m0), (1, .int (nI i)), (2, .int (nI to))]) hx hb dX8_push_155 hl (by decide) rfl (fun ls hl => ?_)
                refine lv_aload_n hx hb dX8_push_157 rfl (lv_at hl 2 rfl) ?_
                refine gf_X8_13 hx hb hts hown hK hH hmfn973 rfl dX8_push_158 ?_
                refine lv_iload_n hx hb dX8_push_161 rfl (lv_at hl 3 rfl) ?_
                refine lv_aload_n hx hb dX8_push_162 rfl (lv_at hl 2 rfl) ?_
                refine lv_lload_n hx hb dX8_push_163 rfl (lv_at hl 1 rfl) ?_
                refine lv_aload_n hx hb dX8_push_164 rfl (lv_at hl 2 rfl) ?_
                refine gf_X8_17 hx hb hts hown hK hH hmfn973 rfl dX8_push_165 ?_
                refine lv_iload_n hx hb dX8_push_168 rfl (lv_at hl 3 rfl) ?_
                refine hm_iald hx hb hK hH h976 (vp_in_nI hi8 (by decide)) dX8_push_169 ?_
                refine lv_topi (fun v1002 ev1002 => ?_)
                replace ev1002 : v1002 = nI (gs i).2.2.1 := ev1002.trans (by show nI (gs (nI i).toNatClampNeg).2.2.1 = _; rw [nI_clamp (n := i) (by omega)])
                subst ev1002
                refine hm_callV (rest := [.int (nI i), .ref ((r 1))]) (k := 2) q5_127 q5_129 q1_9 q5_130 q0_18 rfl nm_X8_drawn rfl hx hb hml hown hts hK hO hS hH hl.1 hmfn973 (c_X8_drawn Γ l m0 r 0 (nI np) (nI ng) (nI nt) (nI kp) (nI rr) ck lim dz (nI (gainT (gs i).2.1 to)) hih mih fh msh msm mso sp rf (pushT (gs i).2.1 to) (gs i).2.2.1 fn973 hmfn973 (pushT_lt ht15 hto) hgz (push_gap hto hgo1)) ⟨Nat.le_of_ble_eq_true rfl, Nat.le_of_ble_eq_true rfl⟩ ⟨Nat.le_of_ble_eq_true rfl, Nat.le_of_ble_eq_true rfl⟩ rfl (Nat.le_of_ble_eq_true rfl) dX8_push_170 (fun v_ fn1003 H locs hp_ hH hS => ?_)
                obtain ⟨rfl, efn1003⟩ := hp_
                refine W.eq (g2 := F0 m 173 ls [.long (b4 (drawT (pushT (gs i).2.1 to) (gs i).2.2.1)), .int (nI i), .ref ((r 1))]) rfl ?_
                have hmfn1003 : fn1003 m0 = some (eM r 0 (nI np) (nI ng) (nI nt) (nI kp) (nI rr) ck lim (nI (nxt (nxt (gs i).2.2.1))) (nI (gainT (gs i).2.1 to)) hih mih fh msh msm mso sp rf) := by rw [efn1003]; exact hm_us
                have h1004 : fn1003 ((r 0)) = some (eI Γ 4 mon) := by rw [efn1003]; exact (hm_un (hm_ne h974 hmfn973 (fun q => by cases q))).trans h974
                have h1005 : fn1003 ((r 1)) = some (eJ Γ 8 (fun i => b4 (gs i).2.1)) := by rw [efn1003]; exact (hm_un (hm_ne h975 hmfn973 (fun q => by cases q))).trans h975
                have h1006 : fn1003 ((r 2)) = some (eI Γ 8 (fun i => nI (gs i).2.2.1)) := by rw [efn1003]; exact (hm_un (hm_ne h976 hmfn973 (fun q => by cases q))).trans h976
                have h1007 : fn1003 ((r 3)) = some (eI Γ 8 (fun i => nI (gs i).1)) := by rw [efn1003]; exact (hm_un (hm_ne h977 hmfn973 (fun q => by cases q))).trans h977
                have h1008 : fn1003 ((r 4)) = some (eI Γ 8 (fun i => (gs i).2.2.2.1)) := by rw [efn1003]; exact (hm_un (hm_ne h978 hmfn973 (fun q => by cases q))).trans h978
                have h1009 : fn1003 ((r 5)) = some (eI Γ 8 (fun i => (gs i).2.2.2.2.1)) := by rw [efn1003]; exact (hm_un (hm_ne h979 hmfn973 (fun q => by cases q))).trans h979
                have h1010 : fn1003 ((r 6)) = some (eI Γ 8 (upd (fun i => (gs i).2.2.2.2.2.1) i (((gs i).2.2.2.2.2.1 + 1)))) := by rw [efn1003]; exact (hm_un (hm_ne h980 hmfn973 (fun q => by cases q))).trans h980
                have h1011 : fn1003 ((r 7)) = some (eI Γ 8 (upd (fun i => (gs i).2.2.2.2.2.2.1) i (((if FO = true then (gs i).2.2.2.2.2.1 + 1 else 0))))) := by rw [efn1003]; exact (hm_un (hm_ne h981 hmfn973 (fun q => by cases q))).trans h981
                have h1012 : fn1003 ((r 8)) = some (eI Γ 8 (fun i => (gs i).2.2.2.2.2.2.2.1)) := by rw [efn1003]; exact (hm_un (hm_ne h982 hmfn973 (fun q => by cases q))).trans h982
                have h1013 : fn1003 ((r 9)) = some (eZ Γ 8 (fun i => bI (gs i).2.2.2.2.2.2.2.2)) := by rw [efn1003]; exact (hm_un (hm_ne h983 hmfn973 (fun q => by cases q))).trans h983
                have h1014 : fn1003 ((r 10)) = some (eJ Γ 60 (fun i => b4 (ts i).2.1)) := by rw [efn1003]; exact (hm_un (hm_ne h984 hmfn973 (fun q => by cases q))).trans h984
                have h1015 : fn1003 ((r 11)) = some (eI Γ 60 (fun i => nI (ts i).2.2.1)) := by rw [efn1003]; exact (hm_un (hm_ne h985 hmfn973 (fun q => by cases q))).trans h985
                have h1016 : fn1003 ((r 12)) = some (eI Γ 60 (fun i => nI (ts i).1)) := by rw [efn1003]; exact (hm_un (hm_ne h986 hmfn973 (fun q => by cases q))).trans h986
                have h1017 : fn1003 ((r 13)) = some (eI Γ 60 (fun i => (ts i).2.2.2)) := by rw [efn1003]; exact (hm_un (hm_ne h987 hmfn973 (fun q => by cases q))).trans h987
                have h1018 : fn1003 ((r 14)) = some (eJ Γ 64 (fun j => (K j).1)) := by rw [efn1003]; exact (hm_un (hm_ne h988 hmfn973 (fun q => by cases q))).trans h988
                have h1019 : fn1003 ((r 15)) = some (eI Γ 64 (fun j => (K j).2.1)) := by rw [efn1003]; exact (hm_un (hm_ne h989 hmfn973 (fun q => by cases q))).trans h989
                have h1020 : fn1003 ((r 16)) = some (eI Γ 64 (fun j => (K j).2.2.1)) := by rw [efn1003]; exact (hm_un (hm_ne h990 hmfn973 (fun q => by cases q))).trans h990
                have h1021 : fn1003 ((r 17)) = some (eI Γ 64 (fun j => (K j).2.2.2.1)) := by rw [efn1003]; exact (hm_un (hm_ne h991 hmfn973 (fun q => by cases q))).trans h991
                have h1022 : fn1003 ((r 18)) = some (eI Γ 64 (fun j => (K j).2.2.2.2.1)) := by rw [efn1003]; exact (hm_un (hm_ne h992 hmfn973 (fun q => by cases q))).trans h992
                have h1023 : fn1003 ((r 19)) = some (eI Γ 64 (fun j => (K j).2.2.2.2.2.1)) := by rw [efn1003]; exact (hm_un (hm_ne h993 hmfn973 (fun q => by cases q))).trans h993
                have h1024 : fn1003 ((r 20)) = some (eI Γ 64 (fun j => (K j).2.2.2.2.2.2)) := by rw [efn1003]; exact (hm_un (hm_ne h994 hmfn973 (fun q => by cases q))).trans h994
                have h1025 : fn1003 ((r 21)) = some (eJ Γ 6 pb) := by rw [efn1003]; exact (hm_un (hm_ne h995 hmfn973 (fun q => by cases q))).trans h995
                have h1026 : fn1003 ((r 22)) = some (eI Γ 6 pz) := by rw [efn1003]; exact (hm_un (hm_ne h996 hmfn973 (fun q => by cases q))).trans h996
                have h1027 : fn1003 ((r 23)) = some (eI Γ 6 pd) := by rw [efn1003]; exact (hm_un (hm_ne h997 hmfn973 (fun q => by cases q))).trans h997
                have h1028 : fn1003 ((r 24)) = some (eI Γ 6 pn) := by rw [efn1003]; exact (hm_un (hm_ne h998 hmfn973 (fun q => by cases q))).trans h998
                have h1029 : fn1003 ((r 25)) = some (eI Γ 6 pe) := by rw [efn1003]; exact (hm_un (hm_ne h999 hmfn973 (fun q => by cases q))).trans h999
                have h1030 : fn1003 ((r 26)) = some (eI Γ 6 ph) := by rw [efn1003]; exact (hm_un (hm_ne h1000 hmfn973 (fun q => by cases q))).trans h1000
                have h1031 : fn1003 ((r 27)) = some (eI Γ 6 pg) := by rw [efn1003]; exact (hm_un (hm_ne h1001 hmfn973 (fun q => by cases q))).trans h1001
                refine hm_last hx hb hK hO hS hH h1005 (vp_in_nI hi8 (by decide)) dX8_push_173 (fun H locs hH hS => ?_)
                rw [nI_clamp (n := i) (by omega)] at hH
                obtain ⟨f1032, ef1032⟩ : ∃ zz_, zz_ = hm_up fn1003 ((r 1)) (eJ Γ 8 (vp_updL (fun i => b4 (gs i).2.1) i (b4 (drawT (pushT (gs i).2.1 to) (gs i).2.2.1)))) := ⟨_, rfl⟩
                have hH : hm_H Γ f1032 H := by rw [ef1032]; exact hH
                have h1033 : f1032 ((r 1)) = some (eJ Γ 8 (vp_updL (fun i => b4 (gs i).2.1) i (b4 (drawT (pushT (gs i).2.1 to) (gs i).2.2.1)))) := by rw [ef1032]; exact hm_us
                have h1034 : f1032 m0 = some (eM r 0 (nI np) (nI ng) (nI nt) (nI kp) (nI rr) ck lim (nI (nxt (nxt (gs i).2.2.1))) (nI (gainT (gs i).2.1 to)) hih mih fh msh msm mso sp rf) := by rw [ef1032]; exact (hm_un (hm_ne hmfn1003 h1005 (fun q => by cases q))).trans hmfn1003
                have h1035 : f1032 ((r 0)) = some (eI Γ 4 mon) := by rw [ef1032]; exact (hm_un (hrI 0 1 (by decide) (by decide) (by decide))).trans h1004
                have h1036 : f1032 ((r 2)) = some (eI Γ 8 (fun i => nI (gs i).2.2.1)) := by rw [ef1032]; exact (hm_un (hrI 2 1 (by decide) (by decide) (by decide))).trans h1006
                have h1037 : f1032 ((r 3)) = some (eI Γ 8 (fun i => nI (gs i).1)) := by rw [ef1032]; exact (hm_un (hrI 3 1 (by decide) (by decide) (by decide))).trans h1007
                have h1038 : f1032 ((r 4)) = some (eI Γ 8 (fun i => (gs i).2.2.2.1)) := by rw [ef1032]; exact (hm_un (hrI 4 1 (by decide) (by decide) (by decide))).trans h1008
                have h1039 : f1032 ((r 5)) = some (eI Γ 8 (fun i => (gs i).2.2.2.2.1)) := by rw [ef1032]; exact (hm_un (hrI 5 1 (by decide) (by decide) (by decide))).trans h1009
                have h1040 : f1032 ((r 6)) = some (eI Γ 8 (upd (fun i => (gs i).2.2.2.2.2.1) i (((gs i).2.2.2.2.2.1 + 1)))) := by rw [ef1032]; exact (hm_un (hrI 6 1 (by decide) (by decide) (by decide))).trans h1010
                have h1041 : f1032 ((r 7)) = some (eI Γ 8 (upd (fun i => (gs i).2.2.2.2.2.2.1) i (((if FO = true then (gs i).2.2.2.2.2.1 + 1 else 0))))) := by rw [ef1032]; exact (hm_un (hrI 7 1 (by decide) (by decide) (by decide))).trans h1011
                have h1042 : f1032 ((r 8)) = some (eI Γ 8 (fun i => (gs i).2.2.2.2.2.2.2.1)) := by rw [ef1032]; exact (hm_un (hrI 8 1 (by decide) (by decide) (by decide))).trans h1012
                have h1043 : f1032 ((r 9)) = some (eZ Γ 8 (fun i => bI (gs i).2.2.2.2.2.2.2.2)) := by rw [ef1032]; exact (hm_un (hrI 9 1 (by decide) (by decide) (by decide))).trans h1013
                have h1044 : f1032 ((r 10)) = some (eJ Γ 60 (fun i => b4 (ts i).2.1)) := by rw [ef1032]; exact (hm_un (hrI 10 1 (by decide) (by decide) (by decide))).trans h1014
                have h1045 : f1032 ((r 11)) = some (eI Γ 60 (fun i => nI (ts i).2.2.1)) := by rw [ef1032]; exact (hm_un (hrI 11 1 (by decide) (by decide) (by decide))).trans h1015
                have h1046 : f1032 ((r 12)) = some (eI Γ 60 (fun i => nI (ts i).1)) := by rw [ef1032]; exact (hm_un (hrI 12 1 (by decide) (by decide) (by decide))).trans h1016
                have h1047 : f1032 ((r 13)) = some (eI Γ 60 (fun i => (ts i).2.2.2)) := by rw [ef1032]; exact (hm_un (hrI 13 1 (by decide) (by decide) (by decide))).trans h1017
                have h1048 : f1032 ((r 14)) = some (eJ Γ 64 (fun j => (K j).1)) := by rw [ef1032]; exact (hm_un (hrI 14 1 (by decide) (by decide) (by decide))).trans h1018
                have h1049 : f1032 ((r 15)) = some (eI Γ 64 (fun j => (K j).2.1)) := by rw [ef1032]; exact (hm_un (hrI 15 1 (by decide) (by decide) (by decide))).trans h1019
                have h1050 : f1032 ((r 16)) = some (eI Γ 64 (fun j => (K j).2.2.1)) := by rw [ef1032]; exact (hm_un (hrI 16 1 (by decide) (by decide) (by decide))).trans h1020
                have h1051 : f1032 ((r 17)) = some (eI Γ 64 (fun j => (K j).2.2.2.1)) := by rw [ef1032]; exact (hm_un (hrI 17 1 (by decide) (by decide) (by decide))).trans h1021
                have h1052 : f1032 ((r 18)) = some (eI Γ 64 (fun j => (K j).2.2.2.2.1)) := by rw [ef1032]; exact (hm_un (hrI 18 1 (by decide) (by decide) (by decide))).trans h1022
                have h1053 : f1032 ((r 19)) = some (eI Γ 64 (fun j => (K j).2.2.2.2.2.1)) := by rw [ef1032]; exact (hm_un (hrI 19 1 (by decide) (by decide) (by decide))).trans h1023
                have h1054 : f1032 ((r 20)) = some (eI Γ 64 (fun j => (K j).2.2.2.2.2.2)) := by rw [ef1032]; exact (hm_un (hrI 20 1 (by decide) (by decide) (by decide))).trans h1024
                have h1055 : f1032 ((r 21)) = some (eJ Γ 6 pb) := by rw [ef1032]; exact (hm_un (hrI 21 1 (by decide) (by decide) (by decide))).trans h1025
                have h1056 : f1032 ((r 22)) = some (eI Γ 6 pz) := by rw [ef1032]; exact (hm_un (hrI 22 1 (by decide) (by decide) (by decide))).trans h1026
                have h1057 : f1032 ((r 23)) = some (eI Γ 6 pd) := by rw [ef1032]; exact (hm_un (hrI 23 1 (by decide) (by decide) (by decide))).trans h1027
                have h1058 : f1032 ((r 24)) = some (eI Γ 6 pn) := by rw [ef1032]; exact (hm_un (hrI 24 1 (by decide) (by decide) (by decide))).trans h1028
                have h1059 : f1032 ((r 25)) = some (eI Γ 6 pe) := by rw [ef1032]; exact (hm_un (hrI 25 1 (by decide) (by decide) (by decide))).trans h1029
                have h1060 : f1032 ((r 26)) = some (eI Γ 6 ph) := by rw [ef1032]; exact (hm_un (hrI 26 1 (by decide) (by decide) (by decide))).trans h1030
                have h1061 : f1032 ((r 27)) = some (eI Γ 6 pg) := by rw [ef1032]; exact (hm_un (hrI 27 1 (by decide) (by decide) (by decide))).trans h1031
                refine lv_aload_n hx hb dX8_push_174 rfl (lv_at hl 2 rfl) ?_
                refine gf_X8_17 hx hb hts hown hK hH h1034 rfl dX8_push_175 ?_
                refine lv_iload_n hx hb dX8_push_178 rfl (lv_at hl 3 rfl) ?_
                refine lv_aload_n hx hb dX8_push_179 rfl (lv_at hl 2 rfl) ?_
                refine gf_X8_135 hx hb hts hown hK hH h1034 rfl dX8_push_180 ?_
                refine hm_iast hx hb hK hO hS hH h1036 (vp_in_nI hi8 (by decide)) dX8_push_183 (fun H locs hH hS => ?_)
                rw [nI_clamp (n := i) (by omega)] at hH
                obtain ⟨f1062, ef1062⟩ : ∃ zz_, zz_ = hm_up f1032 ((r 2)) (eI Γ 8 (upd (fun i => nI (gs i).2.2.1) i (nI (nxt (nxt (gs i).2.2.1))))) := ⟨_, rfl⟩
                have hH : hm_H Γ f1062 H := by rw [ef1062]; exact hH
                have h1063 : f1062 ((r 2)) = some (eI Γ 8 (upd (fun i => nI (gs i).2.2.1) i (nI (nxt (nxt (gs i).2.2.1))))) := by rw [ef1062]; exact hm_us
                have h1064 : f1062 m0 = some (eM r 0 (nI np) (nI ng) (nI nt) (nI kp) (nI rr) ck lim (nI (nxt (nxt (gs i).2.2.1))) (nI (gainT (gs i).2.1 to)) hih mih fh msh msm mso sp rf) := by rw [ef1062]; exact (hm_un (hm_ne h1034 h1036 (fun q => by cases q))).trans h1034
                have h1065 : f1062 ((r 0)) = some (eI Γ 4 mon) := by rw [ef1062]; exact (hm_un (hrI 0 2 (by decide) (by decide) (by decide))).trans h1035
                have h1066 : f1062 ((r 1)) = some (eJ Γ 8 (vp_updL (fun i => b4 (gs i).2.1) i (b4 (drawT (pushT (gs i).2.1 to) (gs i).2.2.1)))) := by rw [ef1062]; exact (hm_un (hrI 1 2 (by decide) (by decide) (by decide))).trans h1033
                have h1067 : f1062 ((r 3)) = some (eI Γ 8 (fun i => nI (gs i).1)) := by rw [ef1062]; exact (hm_un (hrI 3 2 (by decide) (by decide) (by decide))).trans h1037
                have h1068 : f1062 ((r 4)) = some (eI Γ 8 (fun i => (gs i).2.2.2.1)) := by rw [ef1062]; exact (hm_un (hrI 4 2 (by decide) (by decide) (by decide))).trans h1038
                have h1069 : f1062 ((r 5)) = some (eI Γ 8 (fun i => (gs i).2.2.2.2.1)) := by rw [ef1062]; exact (hm_un (hrI 5 2 (by decide) (by decide) (by decide))).trans h1039
                have h1070 : f1062 ((r 6)) = some (eI Γ 8 (upd (fun i => (gs i).2.2.2.2.2.1) i (((gs i).2.2.2.2.2.1 + 1)))) := by rw [ef1062]; exact (hm_un (hrI 6 2 (by decide) (by decide) (by decide))).trans h1040
                have h1071 : f1062 ((r 7)) = some (eI Γ 8 (upd (fun i => (gs i).2.2.2.2.2.2.1) i (((if FO = true then (gs i).2.2.2.2.2.1 + 1 else 0))))) := by rw [ef1062]; exact (hm_un (hrI 7 2 (by decide) (by decide) (by decide))).trans h1041
                have h1072 : f1062 ((r 8)) = some (eI Γ 8 (fun i => (gs i).2.2.2.2.2.2.2.1)) := by rw [ef1062]; exact (hm_un (hrI 8 2 (by decide) (by decide) (by decide))).trans h1042
                have h1073 : f1062 ((r 9)) = some (eZ Γ 8 (fun i => bI (gs i).2.2.2.2.2.2.2.2)) := by rw [ef1062]; exact (hm_un (hrI 9 2 (by decide) (by decide) (by decide))).trans h1043
                have h1074 : f1062 ((r 10)) = some (eJ Γ 60 (fun i => b4 (ts i).2.1)) := by rw [ef1062]; exact (hm_un (hrI 10 2 (by decide) (by decide) (by decide))).trans h1044
                have h1075 : f1062 ((r 11)) = some (eI Γ 60 (fun i => nI (ts i).2.2.1)) := by rw [ef1062]; exact (hm_un (hrI 11 2 (by decide) (by decide) (by decide))).trans h1045
                have h1076 : f1062 ((r 12)) = some (eI Γ 60 (fun i => nI (ts i).1)) := by rw [ef1062]; exact (hm_un (hrI 12 2 (by decide) (by decide) (by decide))).trans h1046
                have h1077 : f1062 ((r 13)) = some (eI Γ 60 (fun i => (ts i).2.2.2)) := by rw [ef1062]; exact (hm_un (hrI 13 2 (by decide) (by decide) (by decide))).trans h1047
                have h1078 : f1062 ((r 14)) = some (eJ Γ 64 (fun j => (K j).1)) := by rw [ef1062]; exact (hm_un (hrI 14 2 (by decide) (by decide) (by decide))).trans h1048
                have h1079 : f1062 ((r 15)) = some (eI Γ 64 (fun j => (K j).2.1)) := by rw [ef1062]; exact (hm_un (hrI 15 2 (by decide) (by decide) (by decide))).trans h1049
                have h1080 : f1062 ((r 16)) = some (eI Γ 64 (fun j => (K j).2.2.1)) := by rw [ef1062]; exact (hm_un (hrI 16 2 (by decide) (by decide) (by decide))).trans h1050
                have h1081 : f1062 ((r 17)) = some (eI Γ 64 (fun j => (K j).2.2.2.1)) := by rw [ef1062]; exact (hm_un (hrI 17 2 (by decide) (by decide) (by decide))).trans h1051
                have h1082 : f1062 ((r 18)) = some (eI Γ 64 (fun j => (K j).2.2.2.2.1)) := by rw [ef1062]; exact (hm_un (hrI 18 2 (by decide) (by decide) (by decide))).trans h1052
                have h1083 : f1062 ((r 19)) = some (eI Γ 64 (fun j => (K j).2.2.2.2.2.1)) := by rw [ef1062]; exact (hm_un (hrI 19 2 (by decide) (by decide) (by decide))).trans h1053
                have h1084 : f1062 ((r 20)) = some (eI Γ 64 (fun j => (K j).2.2.2.2.2.2)) := by rw [ef1062]; exact (hm_un (hrI 20 2 (by decide) (by decide) (by decide))).trans h1054
                have h1085 : f1062 ((r 21)) = some (eJ Γ 6 pb) := by rw [ef1062]; exact (hm_un (hrI 21 2 (by decide) (by decide) (by decide))).trans h1055
                have h1086 : f1062 ((r 22)) = some (eI Γ 6 pz) := by rw [ef1062]; exact (hm_un (hrI 22 2 (by decide) (by decide) (by decide))).trans h1056
                have h1087 : f1062 ((r 23)) = some (eI Γ 6 pd) := by rw [ef1062]; exact (hm_un (hrI 23 2 (by decide) (by decide) (by decide))).trans h1057
                have h1088 : f1062 ((r 24)) = some (eI Γ 6 pn) := by rw [ef1062]; exact (hm_un (hrI 24 2 (by decide) (by decide) (by decide))).trans h1058
                have h1089 : f1062 ((r 25)) = some (eI Γ 6 pe) := by rw [ef1062]; exact (hm_un (hrI 25 2 (by decide) (by decide) (by decide))).trans h1059
                have h1090 : f1062 ((r 26)) = some (eI Γ 6 ph) := by rw [ef1062]; exact (hm_un (hrI 26 2 (by decide) (by decide) (by decide))).trans h1060
                have h1091 : f1062 ((r 27)) = some (eI Γ 6 pg) := by rw [ef1062]; exact (hm_un (hrI 27 2 (by decide) (by decide) (by decide))).trans h1061
                refine lv_aload_n hx hb dX8_push_184 rfl (lv_at hl 2 rfl) ?_
                refine gf_X8_23 hx hb hts hown hK hH h1064 rfl dX8_push_185 ?_
                refine lv_iload_n hx hb dX8_push_188 rfl (lv_at hl 3 rfl) ?_
                refine lv_dup2_11 hx hb dX8_push_189 rfl rfl ?_
                refine hm_iald hx hb hK hH h1068 (vp_in_nI hi8 (by decide)) dX8_push_190 ?_
                refine lv_topi (fun v1092 ev1092 => ?_)
                replace ev1092 : v1092 = (gs i).2.2.2.1 := ev1092.trans (by show (gs (nI i).toNatClampNeg).2.2.2.1 = _; rw [nI_clamp (n := i) (by omega)])
                subst ev1092
                refine lv_iload hx hb dX8_push_191 (lv_at hl 0 rfl) ?_
                refine lv_iadd hx hb dX8_push_193 ?_
                refine lv_topi (fun v1093 ev1093 => ?_)
                replace ev1093 : v1093 = ((gs i).2.2.2.1 + nI (gainT (gs i).2.1 to)) := ev1093.trans (rfl)
                subst ev1093
                refine hm_iast hx hb hK hO hS hH h1068 (vp_in_nI hi8 (by decide)) dX8_push_194 (fun H locs hH hS => ?_)
                rw [nI_clamp (n := i) (by omega)] at hH
                obtain ⟨f1094, ef1094⟩ : ∃ zz_, zz_ = hm_up f1062 ((r 4)) (eI Γ 8 (upd (fun i => (gs i).2.2.2.1) i (((gs i).2.2.2.1 + nI (gainT (gs i).2.1 to))))) := ⟨_, rfl⟩
                have hH : hm_H Γ f1094 H := by rw [ef1094]; exact hH
                have h1095 : f1094 ((r 4)) = some (eI Γ 8 (upd (fun i => (gs i).2.2.2.1) i (((gs i).2.2.2.1 + nI (gainT (gs i).2.1 to))))) := by rw [ef1094]; exact hm_us
                have h1096 : f1094 m0 = some (eM r 0 (nI np) (nI ng) (nI nt) (nI kp) (nI rr) ck lim (nI (nxt (nxt (gs i).2.2.1))) (nI (gainT (gs i).2.1 to)) hih mih fh msh msm mso sp rf) := by rw [ef1094]; exact (hm_un (hm_ne h1064 h1068 (fun q => by cases q))).trans h1064
                have h1097 : f1094 ((r 0)) = some (eI Γ 4 mon) := by rw [ef1094]; exact (hm_un (hrI 0 4 (by decide) (by decide) (by decide))).trans h1065
                have h1098 : f1094 ((r 1)) = some (eJ Γ 8 (vp_updL (fun i => b4 (gs i).2.1) i (b4 (drawT (pushT (gs i).2.1 to) (gs i).2.2.1)))) := by rw [ef1094]; exact (hm_un (hrI 1 4 (by decide) (by decide) (by decide))).trans h1066
                have h1099 : f1094 ((r 2)) = some (eI Γ 8 (upd (fun i => nI (gs i).2.2.1) i (nI (nxt (nxt (gs i).2.2.1))))) := by rw [ef1094]; exact (hm_un (hrI 2 4 (by decide) (by decide) (by decide))).trans h1063
                have h1100 : f1094 ((r 3)) = some (eI Γ 8 (fun i => nI (gs i).1)) := by rw [ef1094]; exact (hm_un (hrI 3 4 (by decide) (by decide) (by decide))).trans h1067
                have h1101 : f1094 ((r 5)) = some (eI Γ 8 (fun i => (gs i).2.2.2.2.1)) := by rw [ef1094]; exact (hm_un (hrI 5 4 (by decide) (by decide) (by decide))).trans h1069
                have h1102 : f1094 ((r 6)) = some (eI Γ 8 (upd (fun i => (gs i).2.2.2.2.2.1) i (((gs i).2.2.2.2.2.1 + 1)))) := by rw [ef1094]; exact (hm_un (hrI 6 4 (by decide) (by decide) (by decide))).trans h1070
                have h1103 : f1094 ((r 7)) = some (eI Γ 8 (upd (fun i => (gs i).2.2.2.2.2.2.1) i (((if FO = true then (gs i).2.2.2.2.2.1 + 1 else 0))))) := by rw [ef1094]; exact (hm_un (hrI 7 4 (by decide) (by decide) (by decide))).trans h1071
                have h1104 : f1094 ((r 8)) = some (eI Γ 8 (fun i => (gs i).2.2.2.2.2.2.2.1)) := by rw [ef1094]; exact (hm_un (hrI 8 4 (by decide) (by decide) (by decide))).trans h1072
                have h1105 : f1094 ((r 9)) = some (eZ Γ 8 (fun i => bI (gs i).2.2.2.2.2.2.2.2)) := by rw [ef1094]; exact (hm_un (hrI 9 4 (by decide) (by decide) (by decide))).trans h1073
                have h1106 : f1094 ((r 10)) = some (eJ Γ 60 (fun i => b4 (ts i).2.1)) := by rw [ef1094]; exact (hm_un (hrI 10 4 (by decide) (by decide) (by decide))).trans h1074
                have h1107 : f1094 ((r 11)) = some (eI Γ 60 (fun i => nI (ts i).2.2.1)) := by rw [ef1094]; exact (hm_un (hrI 11 4 (by decide) (by decide) (by decide))).trans h1075
                have h1108 : f1094 ((r 12)) = some (eI Γ 60 (fun i => nI (ts i).1)) := by rw [ef1094]; exact (hm_un (hrI 12 4 (by decide) (by decide) (by decide))).trans h1076
                have h1109 : f1094 ((r 13)) = some (eI Γ 60 (fun i => (ts i).2.2.2)) := by rw [ef1094]; exact (hm_un (hrI 13 4 (by decide) (by decide) (by decide))).trans h1077
                have h1110 : f1094 ((r 14)) = some (eJ Γ 64 (fun j => (K j).1)) := by rw [ef1094]; exact (hm_un (hrI 14 4 (by decide) (by decide) (by decide))).trans h1078
                have h1111 : f1094 ((r 15)) = some (eI Γ 64 (fun j => (K j).2.1)) := by rw [ef1094]; exact (hm_un (hrI 15 4 (by decide) (by decide) (by decide))).trans h1079
                have h1112 : f1094 ((r 16)) = some (eI Γ 64 (fun j => (K j).2.2.1)) := by rw [ef1094]; exact (hm_un (hrI 16 4 (by decide) (by decide) (by decide))).trans h1080
                have h1113 : f1094 ((r 17)) = some (eI Γ 64 (fun j => (K j).2.2.2.1)) := by rw [ef1094]; exact (hm_un (hrI 17 4 (by decide) (by decide) (by decide))).trans h1081
                have h1114 : f1094 ((r 18)) = some (eI Γ 64 (fun j => (K j).2.2.2.2.1)) := by rw [ef1094]; exact (hm_un (hrI 18 4 (by decide) (by decide) (by decide))).trans h1082
                have h1115 : f1094 ((r 19)) = some (eI Γ 64 (fun j => (K j).2.2.2.2.2.1)) := by rw [ef1094]; exact (hm_un (hrI 19 4 (by decide) (by decide) (by decide))).trans h1083
                have h1116 : f1094 ((r 20)) = some (eI Γ 64 (fun j => (K j).2.2.2.2.2.2)) := by rw [ef1094]; exact (hm_un (hrI 20 4 (by decide) (by decide) (by decide))).trans h1084
                have h1117 : f1094 ((r 21)) = some (eJ Γ 6 pb) := by rw [ef1094]; exact (hm_un (hrI 21 4 (by decide) (by decide) (by decide))).trans h1085
                have h1118 : f1094 ((r 22)) = some (eI Γ 6 pz) := by rw [ef1094]; exact (hm_un (hrI 22 4 (by decide) (by decide) (by decide))).trans h1086
                have h1119 : f1094 ((r 23)) = some (eI Γ 6 pd) := by rw [ef1094]; exact (hm_un (hrI 23 4 (by decide) (by decide) (by decide))).trans h1087
                have h1120 : f1094 ((r 24)) = some (eI Γ 6 pn) := by rw [ef1094]; exact (hm_un (hrI 24 4 (by decide) (by decide) (by decide))).trans h1088
                have h1121 : f1094 ((r 25)) = some (eI Γ 6 pe) := by rw [ef1094]; exact (hm_un (hrI 25 4 (by decide) (by decide) (by decide))).trans h1089
                have h1122 : f1094 ((r 26)) = some (eI Γ 6 ph) := by rw [ef1094]; exact (hm_un (hrI 26 4 (by decide) (by decide) (by decide))).trans h1090
                have h1123 : f1094 ((r 27)) = some (eI Γ 6 pg) := by rw [ef1094]; exact (hm_un (hrI 27 4 (by decide) (by decide) (by decide))).trans h1091
                refine lv_aload_n hx hb dX8_push_195 rfl (lv_at hl 2 rfl) ?_
                refine gf_X8_26 hx hb hts hown hK hH h1096 rfl dX8_push_196 ?_
                refine lv_iload_n hx hb dX8_push_199 rfl (lv_at hl 3 rfl) ?_
                refine lv_dup2_11 hx hb dX8_push_200 rfl rfl ?_
                refine hm_iald hx hb hK hH h1101 (vp_in_nI hi8 (by decide)) dX8_push_201 ?_
                refine lv_topi (fun v1124 ev1124 => ?_)
                replace ev1124 : v1124 = (gs i).2.2.2.2.1 := ev1124.trans (by show (gs (nI i).toNatClampNeg).2.2.2.2.1 = _; rw [nI_clamp (n := i) (by omega)])
                subst ev1124
                refine lv_iconst (v := 1) hx hb dX8_push_202 (by decide) ?_
                refine lv_iadd hx hb dX8_push_203 ?_
                refine lv_topi (fun v1125 ev1125 => ?_)
                replace ev1125 : v1125 = ((gs i).2.2.2.2.1 + 1) := ev1125.trans (rfl)
                subst ev1125
                refine hm_iast hx hb hK hO hS hH h1101 (vp_in_nI hi8 (by decide)) dX8_push_204 (fun H locs hH hS => ?_)
                rw [nI_clamp (n := i) (by omega)] at hH
                obtain ⟨f1126, ef1126⟩ : ∃ zz_, zz_ = hm_up f1094 ((r 5)) (eI Γ 8 (upd (fun i => (gs i).2.2.2.2.1) i (((gs i).2.2.2.2.1 + 1)))) := ⟨_, rfl⟩
                have hH : hm_H Γ f1126 H := by rw [ef1126]; exact hH
                have h1127 : f1126 ((r 5)) = some (eI Γ 8 (upd (fun i => (gs i).2.2.2.2.1) i (((gs i).2.2.2.2.1 + 1)))) := by rw [ef1126]; exact hm_us
                have h1128 : f1126 m0 = some (eM r 0 (nI np) (nI ng) (nI nt) (nI kp) (nI rr) ck lim (nI (nxt (nxt (gs i).2.2.1))) (nI (gainT (gs i).2.1 to)) hih mih fh msh msm mso sp rf) := by rw [ef1126]; exact (hm_un (hm_ne h1096 h1101 (fun q => by cases q))).trans h1096
                have h1129 : f1126 ((r 0)) = some (eI Γ 4 mon) := by rw [ef1126]; exact (hm_un (hrI 0 5 (by decide) (by decide) (by decide))).trans h1097
                have h1130 : f1126 ((r 1)) = some (eJ Γ 8 (vp_updL (fun i => b4 (gs i).2.1) i (b4 (drawT (pushT (gs i).2.1 to) (gs i).2.2.1)))) := by rw [ef1126]; exact (hm_un (hrI 1 5 (by decide) (by decide) (by decide))).trans h1098
                have h1131 : f1126 ((r 2)) = some (eI Γ 8 (upd (fun i => nI (gs i).2.2.1) i (nI (nxt (nxt (gs i).2.2.1))))) := by rw [ef1126]; exact (hm_un (hrI 2 5 (by decide) (by decide) (by decide))).trans h1099
                have h1132 : f1126 ((r 3)) = some (eI Γ 8 (fun i => nI (gs i).1)) := by rw [ef1126]; exact (hm_un (hrI 3 5 (by decide) (by decide) (by decide))).trans h1100
                have h1133 : f1126 ((r 4)) = some (eI Γ 8 (upd (fun i => (gs i).2.2.2.1) i (((gs i).2.2.2.1 + nI (gainT (gs i).2.1 to))))) := by rw [ef1126]; exact (hm_un (hrI 4 5 (by decide) (by decide) (by decide))).trans h1095
                have h1134 : f1126 ((r 6)) = some (eI Γ 8 (upd (fun i => (gs i).2.2.2.2.2.1) i (((gs i).2.2.2.2.2.1 + 1)))) := by rw [ef1126]; exact (hm_un (hrI 6 5 (by decide) (by decide) (by decide))).trans h1102
                have h1135 : f1126 ((r 7)) = some (eI Γ 8 (upd (fun i => (gs i).2.2.2.2.2.2.1) i (((if FO = true then (gs i).2.2.2.2.2.1 + 1 else 0))))) := by rw [ef1126]; exact (hm_un (hrI 7 5 (by decide) (by decide) (by decide))).trans h1103
                have h1136 : f1126 ((r 8)) = some (eI Γ 8 (fun i => (gs i).2.2.2.2.2.2.2.1)) := by rw [ef1126]; exact (hm_un (hrI 8 5 (by decide) (by decide) (by decide))).trans h1104
                have h1137 : f1126 ((r 9)) = some (eZ Γ 8 (fun i => bI (gs i).2.2.2.2.2.2.2.2)) := by rw [ef1126]; exact (hm_un (hrI 9 5 (by decide) (by decide) (by decide))).trans h1105
                have h1138 : f1126 ((r 10)) = some (eJ Γ 60 (fun i => b4 (ts i).2.1)) := by rw [ef1126]; exact (hm_un (hrI 10 5 (by decide) (by decide) (by decide))).trans h1106
                have h1139 : f1126 ((r 11)) = some (eI Γ 60 (fun i => nI (ts i).2.2.1)) := by rw [ef1126]; exact (hm_un (hrI 11 5 (by decide) (by decide) (by decide))).trans h1107
                have h1140 : f1126 ((r 12)) = some (eI Γ 60 (fun i => nI (ts i).1)) := by rw [ef1126]; exact (hm_un (hrI 12 5 (by decide) (by decide) (by decide))).trans h1108
                have h1141 : f1126 ((r 13)) = some (eI Γ 60 (fun i => (ts i).2.2.2)) := by rw [ef1126]; exact (hm_un (hrI 13 5 (by decide) (by decide) (by decide))).trans h1109
                have h1142 : f1126 ((r 14)) = some (eJ Γ 64 (fun j => (K j).1)) := by rw [ef1126]; exact (hm_un (hrI 14 5 (by decide) (by decide) (by decide))).trans h1110
                have h1143 : f1126 ((r 15)) = some (eI Γ 64 (fun j => (K j).2.1)) := by rw [ef1126]; exact (hm_un (hrI 15 5 (by decide) (by decide) (by decide))).trans h1111
                have h1144 : f1126 ((r 16)) = some (eI Γ 64 (fun j => (K j).2.2.1)) := by rw [ef1126]; exact (hm_un (hrI 16 5 (by decide) (by decide) (by decide))).trans h1112
                have h1145 : f1126 ((r 17)) = some (eI Γ 64 (fun j => (K j).2.2.2.1)) := by rw [ef1126]; exact (hm_un (hrI 17 5 (by decide) (by decide) (by decide))).trans h1113
                have h1146 : f1126 ((r 18)) = some (eI Γ 64 (fun j => (K j).2.2.2.2.1)) := by rw [ef1126]; exact (hm_un (hrI 18 5 (by decide) (by decide) (by decide))).trans h1114
                have h1147 : f1126 ((r 19)) = some (eI Γ 64 (fun j => (K j).2.2.2.2.2.1)) := by rw [ef1126]; exact (hm_un (hrI 19 5 (by decide) (by decide) (by decide))).trans h1115
                have h1148 : f1126 ((r 20)) = some (eI Γ 64 (fun j => (K j).2.2.2.2.2.2)) := by rw [ef1126]; exact (hm_un (hrI 20 5 (by decide) (by decide) (by decide))).trans h1116
                have h1149 : f1126 ((r 21)) = some (eJ Γ 6 pb) := by rw [ef1126]; exact (hm_un (hrI 21 5 (by decide) (by decide) (by decide))).trans h1117
                have h1150 : f1126 ((r 22)) = some (eI Γ 6 pz) := by rw [ef1126]; exact (hm_un (hrI 22 5 (by decide) (by decide) (by decide))).trans h1118
                have h1151 : f1126 ((r 23)) = some (eI Γ 6 pd) := by rw [ef1126]; exact (hm_un (hrI 23 5 (by decide) (by decide) (by decide))).trans h1119
                have h1152 : f1126 ((r 24)) = some (eI Γ 6 pn) := by rw [ef1126]; exact (hm_un (hrI 24 5 (by decide) (by decide) (by decide))).trans h1120
                have h1153 : f1126 ((r 25)) = some (eI Γ 6 pe) := by rw [ef1126]; exact (hm_un (hrI 25 5 (by decide) (by decide) (by decide))).trans h1121
                have h1154 : f1126 ((r 26)) = some (eI Γ 6 ph) := by rw [ef1126]; exact (hm_un (hrI 26 5 (by decide) (by decide) (by decide))).trans h1122
                have h1155 : f1126 ((r 27)) = some (eI Γ 6 pg) := by rw [ef1126]; exact (hm_un (hrI 27 5 (by decide) (by decide) (by decide))).trans h1123
                refine lv_iload hx hb dX8_push_205 (lv_at hl 0 rfl) ?_
                have hfr9 : hm_fr (mS m0 r) f f1126 := by
                  rw [ef1126, ef1094, ef1062, ef1032, efn1003, efn973, ef942, ef724, efn255, efn192, efn126, efn1]
                  exact ((((((((((((hm_fr.rf (S := mS m0 r)).up mS_0).up mS_0).up mS_0).up mS_0).up (mS_r (by decide))).up (mS_r (by decide))).up mS_0).up mS_0).up (mS_r (by decide))).up (mS_r (by decide))).up (mS_r (by decide))).up (mS_r (by decide))
                exact hm_iret hx hb hr hlocks hS hH (⟨Or.inl ⟨by rw [hb1]; (try rw [hix]); rw [hb125]; (try rw [hit]); rw [hb254]; rfl, by rw [hix, hit], MW.mk h1128 ⟨⟨h1142, h1143, h1144, h1145, h1146, h1147, h1148⟩, ⟨_, _, _, _, _, _, _, h1149, h1150, h1151, h1152, h1153, h1154, h1155⟩, h1129, ⟨(by rw [hix, hit, ← eFO]; exact h1130.trans (congrArg some (congrArg (eJ Γ 8) (updL_fun (fun x : GS => b4 (x).2.1) gs i ((gs i).1, drawT (pushT (gs i).2.1 to) (gs i).2.2.1, nxt (nxt (gs i).2.2.1), (gs i).2.2.2.1 + nI (gainT (gs i).2.1 to), (gs i).2.2.2.2.1 + 1, (if FO then (gs i).2.2.2.2.2.1 + 1 else 0), mxI (gs i).2.2.2.2.2.2.1 (if FO then (gs i).2.2.2.2.2.1 + 1 else 0), (gs i).2.2.2.2.2.2.2.1, (gs i).2.2.2.2.2.2.2.2))))), (by rw [hix, hit, ← eFO]; exact h1131.trans (congrArg some (congrArg (eI Γ 8) (upd_fun (fun x : GS => nI (x).2.2.1) gs i ((gs i).1, drawT (pushT (gs i).2.1 to) (gs i).2.2.1, nxt (nxt (gs i).2.2.1), (gs i).2.2.2.1 + nI (gainT (gs i).2.1 to), (gs i).2.2.2.2.1 + 1, (if FO then (gs i).2.2.2.2.2.1 + 1 else 0), mxI (gs i).2.2.2.2.2.2.1 (if FO then (gs i).2.2.2.2.2.1 + 1 else 0), (gs i).2.2.2.2.2.2.2.1, (gs i).2.2.2.2.2.2.2.2))))), (by rw [hix, hit, ← eFO]; exact h1132.trans (congrArg some (congrArg (eI Γ 8) (gset_p (fun x : GS => nI (x).1) (gs := gs) (i := i) (y := ((gs i).1, drawT (pushT (gs i).2.1 to) (gs i).2.2.1, nxt (nxt (gs i).2.2.1), (gs i).2.2.2.1 + nI (gainT (gs i).2.1 to), (gs i).2.2.2.2.1 + 1, (if FO then (gs i).2.2.2.2.2.1 + 1 else 0), mxI (gs i).2.2.2.2.2.2.1 (if FO then (gs i).2.2.2.2.2.1 + 1 else 0), (gs i).2.2.2.2.2.2.2.1, (gs i).2.2.2.2.2.2.2.2)) rfl)))), (by rw [hix, hit, ← eFO]; exact h1133.trans (congrArg some (congrArg (eI Γ 8) (upd_fun (fun x : GS => (x).2.2.2.1) gs i ((gs i).1, drawT (pushT (gs i).2.1 to) (gs i).2.2.1, nxt (nxt (gs i).2.2.1), (gs i).2.2.2.1 + nI (gainT (gs i).2.1 to), (gs i).2.2.2.2.1 + 1, (if FO then (gs i).2.2.2.2.2.1 + 1 else 0), mxI (gs i).2.2.2.2.2.2.1 (if FO then (gs i).2.2.2.2.2.1 + 1 else 0), (gs i).2.2.2.2.2.2.2.1, (gs i).2.2.2.2.2.2.2.2))))), (by rw [hix, hit, ← eFO]; exact h1127.trans (congrArg some (congrArg (eI Γ 8) (upd_fun (fun x : GS => (x).2.2.2.2.1) gs i ((gs i).1, drawT (pushT (gs i).2.1 to) (gs i).2.2.1, nxt (nxt (gs i).2.2.1), (gs i).2.2.2.1 + nI (gainT (gs i).2.1 to), (gs i).2.2.2.2.1 + 1, (if FO then (gs i).2.2.2.2.2.1 + 1 else 0), mxI (gs i).2.2.2.2.2.2.1 (if FO then (gs i).2.2.2.2.2.1 + 1 else 0), (gs i).2.2.2.2.2.2.2.1, (gs i).2.2.2.2.2.2.2.2))))), (by rw [hix, hit, ← eFO]; have z_ := h1134; rw [← hrw] at z_; exact z_.trans (congrArg some (congrArg (eI Γ 8) (upd_fun (fun x : GS => (x).2.2.2.2.2.1) gs i ((gs i).1, drawT (pushT (gs i).2.1 to) (gs i).2.2.1, nxt (nxt (gs i).2.2.1), (gs i).2.2.2.1 + nI (gainT (gs i).2.1 to), (gs i).2.2.2.2.1 + 1, (if FO then (gs i).2.2.2.2.2.1 + 1 else 0), mxI (gs i).2.2.2.2.2.2.1 (if FO then (gs i).2.2.2.2.2.1 + 1 else 0), (gs i).2.2.2.2.2.2.2.1, (gs i).2.2.2.2.2.2.2.2))))), (by rw [hix, hit, ← eFO]; have z_ := h1135; rw [← hmx] at z_; exact z_.trans (congrArg some (congrArg (eI Γ 8) (upd_fun (fun x : GS => (x).2.2.2.2.2.2.1) gs i ((gs i).1, drawT (pushT (gs i).2.1 to) (gs i).2.2.1, nxt (nxt (gs i).2.2.1), (gs i).2.2.2.1 + nI (gainT (gs i).2.1 to), (gs i).2.2.2.2.1 + 1, (if FO then (gs i).2.2.2.2.2.1 + 1 else 0), mxI (gs i).2.2.2.2.2.2.1 (if FO then (gs i).2.2.2.2.2.1 + 1 else 0), (gs i).2.2.2.2.2.2.2.1, (gs i).2.2.2.2.2.2.2.2))))), (by rw [hix, hit, ← eFO]; exact h1136.trans (congrArg some (congrArg (eI Γ 8) (gset_p (fun x : GS => (x).2.2.2.2.2.2.2.1) (gs := gs) (i := i) (y := ((gs i).1, drawT (pushT (gs i).2.1 to) (gs i).2.2.1, nxt (nxt (gs i).2.2.1), (gs i).2.2.2.1 + nI (gainT (gs i).2.1 to), (gs i).2.2.2.2.1 + 1, (if FO then (gs i).2.2.2.2.2.1 + 1 else 0), mxI (gs i).2.2.2.2.2.2.1 (if FO then (gs i).2.2.2.2.2.1 + 1 else 0), (gs i).2.2.2.2.2.2.2.1, (gs i).2.2.2.2.2.2.2.2)) rfl)))), (by rw [hix, hit, ← eFO]; exact h1137.trans (congrArg some (congrArg (eZ Γ 8) (gset_p (fun x : GS => bI (x).2.2.2.2.2.2.2.2) (gs := gs) (i := i) (y := ((gs i).1, drawT (pushT (gs i).2.1 to) (gs i).2.2.1, nxt (nxt (gs i).2.2.1), (gs i).2.2.2.1 + nI (gainT (gs i).2.1 to), (gs i).2.2.2.2.1 + 1, (if FO then (gs i).2.2.2.2.2.1 + 1 else 0), mxI (gs i).2.2.2.2.2.2.1 (if FO then (gs i).2.2.2.2.2.1 + 1 else 0), (gs i).2.2.2.2.2.2.2.1, (gs i).2.2.2.2.2.2.2.2)) rfl))))⟩, h1138, h1139, h1140, h1141⟩⟩, hfr9.k⟩) (Nat.le_of_ble_eq_true rfl) (Nat.le_of_ble_eq_true rfl) dX8_push_207
  · rw [hb1] at efn1
    refine W.eq (g2 := F0 m 5 ls [.int 1]) (by rw [hb1]; rfl) ?_
    have hm1_ : fn1 m0 = some (eM r 1 (nI np) (nI ng) (nI nt) (nI kp) (nI rr) ck lim dz gd hih mih fh msh msm mso sp rf) := by rw [efn1]; exact hm_us
    have h30 : fn1 ((r 0)) = some (eI Γ 4 mon) := by rw [efn1]; exact (hm_un (hm_ne h0 hm0 (fun q => by cases q))).trans h0
    have h31 : fn1 ((r 1)) = some (eJ Γ 8 (fun i => b4 (gs i).2.1)) := by rw [efn1]; exact (hm_un (hm_ne hg1 hm0 (fun q => by cases q))).trans hg1
    have h32 : fn1 ((r 2)) = some (eI Γ 8 (fun i => nI (gs i).2.2.1)) := by rw [efn1]; exact (hm_un (hm_ne hg2 hm0 (fun q => by cases q))).trans hg2
    have h33 : fn1 ((r 3)) = some (eI Γ 8 (fun i => nI (gs i).1)) := by rw [efn1]; exact (hm_un (hm_ne hg3 hm0 (fun q => by cases q))).trans hg3
    have h34 : fn1 ((r 4)) = some (eI Γ 8 (fun i => (gs i).2.2.2.1)) := by rw [efn1]; exact (hm_un (hm_ne hg4 hm0 (fun q => by cases q))).trans hg4
    have h35 : fn1 ((r 5)) = some (eI Γ 8 (fun i => (gs i).2.2.2.2.1)) := by rw [efn1]; exact (hm_un (hm_ne hg5 hm0 (fun q => by cases q))).trans hg5
    have h36 : fn1 ((r 6)) = some (eI Γ 8 (fun i => (gs i).2.2.2.2.2.1)) := by rw [efn1]; exact (hm_un (hm_ne hg6 hm0 (fun q => by cases q))).trans hg6
    have h37 : fn1 ((r 7)) = some (eI Γ 8 (fun i => (gs i).2.2.2.2.2.2.1)) := by rw [efn1]; exact (hm_un (hm_ne hg7 hm0 (fun q => by cases q))).trans hg7
    have h38 : fn1 ((r 8)) = some (eI Γ 8 (fun i => (gs i).2.2.2.2.2.2.2.1)) := by rw [efn1]; exact (hm_un (hm_ne hg8 hm0 (fun q => by cases q))).trans hg8
    have h39 : fn1 ((r 9)) = some (eZ Γ 8 (fun i => bI (gs i).2.2.2.2.2.2.2.2)) := by rw [efn1]; exact (hm_un (hm_ne hg9 hm0 (fun q => by cases q))).trans hg9
    have h40 : fn1 ((r 10)) = some (eJ Γ 60 (fun i => b4 (ts i).2.1)) := by rw [efn1]; exact (hm_un (hm_ne ht10 hm0 (fun q => by cases q))).trans ht10
    have h41 : fn1 ((r 11)) = some (eI Γ 60 (fun i => nI (ts i).2.2.1)) := by rw [efn1]; exact (hm_un (hm_ne ht11 hm0 (fun q => by cases q))).trans ht11
    have h42 : fn1 ((r 12)) = some (eI Γ 60 (fun i => nI (ts i).1)) := by rw [efn1]; exact (hm_un (hm_ne ht12 hm0 (fun q => by cases q))).trans ht12
    have h43 : fn1 ((r 13)) = some (eI Γ 60 (fun i => (ts i).2.2.2)) := by rw [efn1]; exact (hm_un (hm_ne ht13 hm0 (fun q => by cases q))).trans ht13
    have h44 : fn1 ((r 14)) = some (eJ Γ 64 (fun j => (K j).1)) := by rw [efn1]; exact (hm_un (hm_ne hk0 hm0 (fun q => by cases q))).trans hk0
    have h45 : fn1 ((r 15)) = some (eI Γ 64 (fun j => (K j).2.1)) := by rw [efn1]; exact (hm_un (hm_ne hk1 hm0 (fun q => by cases q))).trans hk1
    have h46 : fn1 ((r 16)) = some (eI Γ 64 (fun j => (K j).2.2.1)) := by rw [efn1]; exact (hm_un (hm_ne hk2 hm0 (fun q => by cases q))).trans hk2
    have h47 : fn1 ((r 17)) = some (eI Γ 64 (fun j => (K j).2.2.2.1)) := by rw [efn1]; exact (hm_un (hm_ne hk3 hm0 (fun q => by cases q))).trans hk3
    have h48 : fn1 ((r 18)) = some (eI Γ 64 (fun j => (K j).2.2.2.2.1)) := by rw [efn1]; exact (hm_un (hm_ne hk4 hm0 (fun q => by cases q))).trans hk4
    have h49 : fn1 ((r 19)) = some (eI Γ 64 (fun j => (K j).2.2.2.2.2.1)) := by rw [efn1]; exact (hm_un (hm_ne hk5 hm0 (fun q => by cases q))).trans hk5
    have h50 : fn1 ((r 20)) = some (eI Γ 64 (fun j => (K j).2.2.2.2.2.2)) := by rw [efn1]; exact (hm_un (hm_ne hk6 hm0 (fun q => by cases q))).trans hk6
    have h51 : fn1 ((r 21)) = some (eJ Γ 6 pb) := by rw [efn1]; exact (hm_un (hm_ne hp0 hm0 (fun q => by cases q))).trans hp0
    have h52 : fn1 ((r 22)) = some (eI Γ 6 pz) := by rw [efn1]; exact (hm_un (hm_ne hp1 hm0 (fun q => by cases q))).trans hp1
    have h53 : fn1 ((r 23)) = some (eI Γ 6 pd) := by rw [efn1]; exact (hm_un (hm_ne hp2 hm0 (fun q => by cases q))).trans hp2
    have h54 : fn1 ((r 24)) = some (eI Γ 6 pn) := by rw [efn1]; exact (hm_un (hm_ne hp3 hm0 (fun q => by cases q))).trans hp3
    have h55 : fn1 ((r 25)) = some (eI Γ 6 pe) := by rw [efn1]; exact (hm_un (hm_ne hp4 hm0 (fun q => by cases q))).trans hp4
    have h56 : fn1 ((r 26)) = some (eI Γ 6 ph) := by rw [efn1]; exact (hm_un (hm_ne hp5 hm0 (fun q => by cases q))).trans hp5
    have h57 : fn1 ((r 27)) = some (eI Γ 6 pg) := by rw [efn1]; exact (hm_un (hm_ne hp6 hm0 (fun q => by cases q))).trans hp6
    refine lv_if_ne (tgt := 66) hx hb dX8_push_5 (by decide) (fun _ => ?_) (fun c1156 => absurd c1156 (by decide))
    refine lv_iconst (v := 0) hx hb dX8_push_66 (by decide) ?_
    have hfr9 : hm_fr (mS m0 r) f fn1 := by
      rw [efn1]
      exact (hm_fr.rf (S := mS m0 r)).up mS_0
    exact hm_iret hx hb hr hlocks hS hH (⟨Or.inr ⟨by rw [hb1]; exact (show (1 : Int32) ≠ 0 by decide), ⟨_, rfl⟩, by rw [hb1]; exact MW.mk hm1_ ⟨⟨h44, h45, h46, h47, h48, h49, h50⟩, ⟨_, _, _, _, _, _, _, h51, h52, h53, h54, h55, h56, h57⟩, h30, ⟨h31, h32, h33, h34, h35, h36, h37, h38, h39⟩, h40, h41, h42, h43⟩⟩, hfr9.k⟩) (Nat.le_of_ble_eq_true rfl) (Nat.le_of_ble_eq_true rfl) dX8_push_67
