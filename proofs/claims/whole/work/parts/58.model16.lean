/-! the model: unpin, pin, judge, noHint -/
theorem r_ne20 {r : Nat → Nat} (hrI : rI r) {k : Nat} (h1 : k ≠ 20) (h2 : k < 28) : ¬ r k = r 20 := hrI k 20 h2 (by decide) h1
def pinK (K : Nat → EV) (o : Option Nat) (g : Nat) : Nat → EV := match o with
  | none => K
  | some a => setK K a (setP (K a) ((K a).2.2.2.2.2.2 ||| (1 <<< (nI g &&& 31))))
theorem kh0 {a b c : Bool} (h : (if a then (if b then (if c then 0 else 3) else 2) else 1 : Int32) = 0) : a = true ∧ b = true ∧ c = true := by
  revert h; cases a <;> cases b <;> cases c <;> decide
set_option maxHeartbeats 4000000 in
set_option maxRecDepth 100000 in
theorem w_X8_unpin (Γ : Gm) (l : Launch) (m0 : Nat) (r : Nat → Nat) (th : Int32) (K : Nat → EV) (kp : Nat) (ck msh msm mso : Int32) (np : Nat) (mon : Nat → Int32) (ng : Nat) (gs : Nat → GS) (nt : Nat) (ts : Nat → TR) (lim : Int32) (rf sp : Int64) (rr : Nat) (v0 : Int32) (f : Hm) (hM : MW Γ f m0 r th K kp ck msh msm mso np mon ng gs nt ts lim rf sp rr) (hnp : np ≤ 4) (hng : ng ≤ 8) (hnt : nt ≤ 60) (hr1 : 1 ≤ rr) (hrr : rr ≤ 64) (hkr : kp ≤ rr) (hrI : rI r) (hgs : GOK np ng gs) : Ct Γ l yX8_unpin cX8_unpin 2 (some .int) 3 0 0 [.ref m0, .int v0] f (mP (if inB v0 (nI ng) then 0 else 1) (nI (cntP (fun j => bt (K j).2.2.2.2.2.2 (ix v0)) kp)) (mS m0 r) f (fun f' => MW Γ f' m0 r 0 ((mixE (unpK K (ix v0)) K kp)) kp ck msh msm mso np mon ng gs nt ts lim rf sp rr) (fun f' => MW Γ f' m0 r ((if inB v0 (nI ng) then 0 else 1)) K kp ck msh msm mso np mon ng gs nt ts lim rf sp rr)) := by
  refine Ct_of (by decide +kernel) (Nat.le_of_ble_eq_true rfl) ?_
  intro p e s m args below meth c hx hb hr hml hown hin hlocks hts hH hO hK ls hl
  have hl : lv_has ls 2 [(0, .ref m0), (1, .int v0)] := hl
  have hS : va_S (gA Γ) s.heap s.heap [] := va_S.rf
  obtain ⟨⟨dz, gd, hih, mih, fh, hm0⟩, hR⟩ := id hM
  obtain ⟨⟨hk0, hk1, hk2, hk3, hk4, hk5, hk6⟩, ⟨pb, pz, pd, pn, pe, ph, pg, hp0, hp1, hp2, hp3, hp4, hp5, hp6⟩, h0, ⟨hg1, hg2, hg3, hg4, hg5, hg6, hg7, hg8, hg9⟩, ht10, ht11, ht12, ht13⟩ := id hR
  refine lv_aload_n hx hb dX8_unpin_0 rfl (lv_at hl 0 rfl) ?_
  refine lv_iload_n hx hb dX8_unpin_1 rfl (lv_at hl 1 rfl) ?_
  refine hm_callV (rest := []) (k := 2) q5_146 q5_148 q1_9 q5_149 q0_19 rfl nm_X8_noGame rfl hx hb hml hown hts hK hO hS hH hl.1 hm0 (c_X8_noGame Γ l m0 r th (nI np) (nI ng) (nI nt) (nI kp) (nI rr) ck lim dz gd hih mih fh msh msm mso sp rf v0 f hm0) ⟨Nat.le_of_ble_eq_true rfl, Nat.le_of_ble_eq_true rfl⟩ ⟨Nat.le_of_ble_eq_true rfl, Nat.le_of_ble_eq_true rfl⟩ rfl (Nat.le_of_ble_eq_true rfl) dX8_unpin_2 (fun v_ fn1 H locs hp_ hH hS => ?_)
  obtain ⟨rfl, efn1⟩ := hp_
  rcases bTF (inB v0 (nI ng)) with hb1 | hb1
  · rw [hb1] at efn1
    refine W.eq (g2 := F0 m 5 ls [.int 0]) (by rw [hb1]; rfl) ?_
    have hm1_ : fn1 m0 = some (eM r 0 (nI np) (nI ng) (nI nt) (nI kp) (nI rr) ck lim dz gd hih mih fh msh msm mso sp rf) := by rw [efn1]; exact hm_us
    have h2 : fn1 ((r 0)) = some (eI Γ 4 mon) := by rw [efn1]; exact (hm_un (hm_ne h0 hm0 (fun q => by cases q))).trans h0
    have h3 : fn1 ((r 1)) = some (eJ Γ 8 (fun i => b4 (gs i).2.1)) := by rw [efn1]; exact (hm_un (hm_ne hg1 hm0 (fun q => by cases q))).trans hg1
    have h4 : fn1 ((r 2)) = some (eI Γ 8 (fun i => nI (gs i).2.2.1)) := by rw [efn1]; exact (hm_un (hm_ne hg2 hm0 (fun q => by cases q))).trans hg2
    have h5 : fn1 ((r 3)) = some (eI Γ 8 (fun i => nI (gs i).1)) := by rw [efn1]; exact (hm_un (hm_ne hg3 hm0 (fun q => by cases q))).trans hg3
    have h6 : fn1 ((r 4)) = some (eI Γ 8 (fun i => (gs i).2.2.2.1)) := by rw [efn1]; exact (hm_un (hm_ne hg4 hm0 (fun q => by cases q))).trans hg4
    have h7 : fn1 ((r 5)) = some (eI Γ 8 (fun i => (gs i).2.2.2.2.1)) := by rw [efn1]; exact (hm_un (hm_ne hg5 hm0 (fun q => by cases q))).trans hg5
    have h8 : fn1 ((r 6)) = some (eI Γ 8 (fun i => (gs i).2.2.2.2.2.1)) := by rw [efn1]; exact (hm_un (hm_ne hg6 hm0 (fun q => by cases q))).trans hg6
    have h9 : fn1 ((r 7)) = some (eI Γ 8 (fun i => (gs i).2.2.2.2.2.2.1)) := by rw [efn1]; exact (hm_un (hm_ne hg7 hm0 (fun q => by cases q))).trans hg7
    have h10 : fn1 ((r 8)) = some (eI Γ 8 (fun i => (gs i).2.2.2.2.2.2.2.1)) := by rw [efn1]; exact (hm_un (hm_ne hg8 hm0 (fun q => by cases q))).trans hg8
    have h11 : fn1 ((r 9)) = some (eZ Γ 8 (fun i => bI (gs i).2.2.2.2.2.2.2.2)) := by rw [efn1]; exact (hm_un (hm_ne hg9 hm0 (fun q => by cases q))).trans hg9
    have h12 : fn1 ((r 10)) = some (eJ Γ 60 (fun i => b4 (ts i).2.1)) := by rw [efn1]; exact (hm_un (hm_ne ht10 hm0 (fun q => by cases q))).trans ht10
    have h13 : fn1 ((r 11)) = some (eI Γ 60 (fun i => nI (ts i).2.2.1)) := by rw [efn1]; exact (hm_un (hm_ne ht11 hm0 (fun q => by cases q))).trans ht11
    have h14 : fn1 ((r 12)) = some (eI Γ 60 (fun i => nI (ts i).1)) := by rw [efn1]; exact (hm_un (hm_ne ht12 hm0 (fun q => by cases q))).trans ht12
    have h15 : fn1 ((r 13)) = some (eI Γ 60 (fun i => (ts i).2.2.2)) := by rw [efn1]; exact (hm_un (hm_ne ht13 hm0 (fun q => by cases q))).trans ht13
    have h16 : fn1 ((r 14)) = some (eJ Γ 64 (fun j => (K j).1)) := by rw [efn1]; exact (hm_un (hm_ne hk0 hm0 (fun q => by cases q))).trans hk0
    have h17 : fn1 ((r 15)) = some (eI Γ 64 (fun j => (K j).2.1)) := by rw [efn1]; exact (hm_un (hm_ne hk1 hm0 (fun q => by cases q))).trans hk1
    have h18 : fn1 ((r 16)) = some (eI Γ 64 (fun j => (K j).2.2.1)) := by rw [efn1]; exact (hm_un (hm_ne hk2 hm0 (fun q => by cases q))).trans hk2
    have h19 : fn1 ((r 17)) = some (eI Γ 64 (fun j => (K j).2.2.2.1)) := by rw [efn1]; exact (hm_un (hm_ne hk3 hm0 (fun q => by cases q))).trans hk3
    have h20 : fn1 ((r 18)) = some (eI Γ 64 (fun j => (K j).2.2.2.2.1)) := by rw [efn1]; exact (hm_un (hm_ne hk4 hm0 (fun q => by cases q))).trans hk4
    have h21 : fn1 ((r 19)) = some (eI Γ 64 (fun j => (K j).2.2.2.2.2.1)) := by rw [efn1]; exact (hm_un (hm_ne hk5 hm0 (fun q => by cases q))).trans hk5
    have h22 : fn1 ((r 20)) = some (eI Γ 64 (fun j => (K j).2.2.2.2.2.2)) := by rw [efn1]; exact (hm_un (hm_ne hk6 hm0 (fun q => by cases q))).trans hk6
    have h23 : fn1 ((r 21)) = some (eJ Γ 6 pb) := by rw [efn1]; exact (hm_un (hm_ne hp0 hm0 (fun q => by cases q))).trans hp0
    have h24 : fn1 ((r 22)) = some (eI Γ 6 pz) := by rw [efn1]; exact (hm_un (hm_ne hp1 hm0 (fun q => by cases q))).trans hp1
    have h25 : fn1 ((r 23)) = some (eI Γ 6 pd) := by rw [efn1]; exact (hm_un (hm_ne hp2 hm0 (fun q => by cases q))).trans hp2
    have h26 : fn1 ((r 24)) = some (eI Γ 6 pn) := by rw [efn1]; exact (hm_un (hm_ne hp3 hm0 (fun q => by cases q))).trans hp3
    have h27 : fn1 ((r 25)) = some (eI Γ 6 pe) := by rw [efn1]; exact (hm_un (hm_ne hp4 hm0 (fun q => by cases q))).trans hp4
    have h28 : fn1 ((r 26)) = some (eI Γ 6 ph) := by rw [efn1]; exact (hm_un (hm_ne hp5 hm0 (fun q => by cases q))).trans hp5
    have h29 : fn1 ((r 27)) = some (eI Γ 6 pg) := by rw [efn1]; exact (hm_un (hm_ne hp6 hm0 (fun q => by cases q))).trans hp6
    obtain ⟨i, hi, rfl⟩ := (inB_iff (by omega)).mp hb1
    obtain ⟨hgo, hgw, hgz⟩ := hgs i hi
    have hi8 : i < 8 := by omega
    have hix : ix (nI i) = i := ix_nI (by omega)
    have ht15 : tl 15 (gs i).2.1 := tl_mono (tl12 (by omega)) (by decide)
    refine lv_if_eq (tgt := 12) hx hb dX8_unpin_5 (by decide) (fun _ => ?_) (fun c58 => absurd (by decide) c58)
    refine lv_aload_n hx hb dX8_unpin_12 rfl (lv_at hl 0 rfl) ?_
    refine lv_iload_n hx hb dX8_unpin_13 rfl (lv_at hl 1 rfl) ?_
    refine hm_callV (rest := []) (k := 2) q6_37 q6_39 q1_9 q6_40 q0_34 rfl nm_X8_unpins rfl hx hb hml hown hts hK hO hS hH hl.1 hm1_ (c_X8_unpins Γ l m0 r 0 (nI np) (nI ng) (nI nt) (nI rr) ck lim dz gd hih mih fh msh msm mso sp rf kp K i fn1 hm1_ ⟨h16, h17, h18, h19, h20, h21, h22⟩ (by omega) hi8 hrI) ⟨Nat.le_of_ble_eq_true rfl, Nat.le_of_ble_eq_true rfl⟩ ⟨Nat.le_of_ble_eq_true rfl, Nat.le_of_ble_eq_true rfl⟩ rfl (Nat.le_of_ble_eq_true rfl) dX8_unpin_14 (fun v_ fu59 H locs hp_ hH hS => ?_)
    obtain ⟨rfl, ⟨hu0, hu1, hu2, hu3, hu4, hu5, hu6⟩, hfru⟩ := hp_
    refine W.eq (g2 := F0 m 17 ls [.int (nI (cntP (fun j => bt (K j).2.2.2.2.2.2 i) kp))]) rfl ?_
    have hfrw : hm_fr (mS m0 r) f fn1 := by
      rw [efn1]
      exact (hm_fr.rf (S := mS m0 r)).up mS_0
    have hfrw2 : hm_fr (mS m0 r) f fu59 := hfrw.tr (hfru.mono (fun q hq => by rw [hq]; exact mS_r (by decide)))
    have h60 : fu59 m0 = some (eM r 0 (nI np) (nI ng) (nI nt) (nI kp) (nI rr) ck lim dz gd hih mih fh msh msm mso sp rf) := (hfru _ (hm_ne hm1_ h22 (fun q => by cases q))).trans hm1_
    have h61 : fu59 (r 0) = some (eI Γ 4 mon) := (hfru _ (r_ne20 hrI (by decide) (by decide))).trans h2
    have h62 : fu59 (r 1) = some (eJ Γ 8 (fun i => b4 (gs i).2.1)) := (hfru _ (r_ne20 hrI (by decide) (by decide))).trans h3
    have h63 : fu59 (r 2) = some (eI Γ 8 (fun i => nI (gs i).2.2.1)) := (hfru _ (r_ne20 hrI (by decide) (by decide))).trans h4
    have h64 : fu59 (r 3) = some (eI Γ 8 (fun i => nI (gs i).1)) := (hfru _ (r_ne20 hrI (by decide) (by decide))).trans h5
    have h65 : fu59 (r 4) = some (eI Γ 8 (fun i => (gs i).2.2.2.1)) := (hfru _ (r_ne20 hrI (by decide) (by decide))).trans h6
    have h66 : fu59 (r 5) = some (eI Γ 8 (fun i => (gs i).2.2.2.2.1)) := (hfru _ (r_ne20 hrI (by decide) (by decide))).trans h7
    have h67 : fu59 (r 6) = some (eI Γ 8 (fun i => (gs i).2.2.2.2.2.1)) := (hfru _ (r_ne20 hrI (by decide) (by decide))).trans h8
    have h68 : fu59 (r 7) = some (eI Γ 8 (fun i => (gs i).2.2.2.2.2.2.1)) := (hfru _ (r_ne20 hrI (by decide) (by decide))).trans h9
    have h69 : fu59 (r 8) = some (eI Γ 8 (fun i => (gs i).2.2.2.2.2.2.2.1)) := (hfru _ (r_ne20 hrI (by decide) (by decide))).trans h10
    have h70 : fu59 (r 9) = some (eZ Γ 8 (fun i => bI (gs i).2.2.2.2.2.2.2.2)) := (hfru _ (r_ne20 hrI (by decide) (by decide))).trans h11
    have h71 : fu59 (r 10) = some (eJ Γ 60 (fun i => b4 (ts i).2.1)) := (hfru _ (r_ne20 hrI (by decide) (by decide))).trans h12
    have h72 : fu59 (r 11) = some (eI Γ 60 (fun i => nI (ts i).2.2.1)) := (hfru _ (r_ne20 hrI (by decide) (by decide))).trans h13
    have h73 : fu59 (r 12) = some (eI Γ 60 (fun i => nI (ts i).1)) := (hfru _ (r_ne20 hrI (by decide) (by decide))).trans h14
    have h74 : fu59 (r 13) = some (eI Γ 60 (fun i => (ts i).2.2.2)) := (hfru _ (r_ne20 hrI (by decide) (by decide))).trans h15
    have h75 : fu59 (r 21) = some (eJ Γ 6 pb) := (hfru _ (r_ne20 hrI (by decide) (by decide))).trans h23
    have h76 : fu59 (r 22) = some (eI Γ 6 pz) := (hfru _ (r_ne20 hrI (by decide) (by decide))).trans h24
    have h77 : fu59 (r 23) = some (eI Γ 6 pd) := (hfru _ (r_ne20 hrI (by decide) (by decide))).trans h25
    have h78 : fu59 (r 24) = some (eI Γ 6 pn) := (hfru _ (r_ne20 hrI (by decide) (by decide))).trans h26
    have h79 : fu59 (r 25) = some (eI Γ 6 pe) := (hfru _ (r_ne20 hrI (by decide) (by decide))).trans h27
    have h80 : fu59 (r 26) = some (eI Γ 6 ph) := (hfru _ (r_ne20 hrI (by decide) (by decide))).trans h28
    have h81 : fu59 (r 27) = some (eI Γ 6 pg) := (hfru _ (r_ne20 hrI (by decide) (by decide))).trans h29
    have hfr9 : hm_fr (mS m0 r) f fu59 := by
      exact hfrw2
    exact hm_iret hx hb hr hlocks hS hH (⟨Or.inl ⟨by rw [hb1]; (try rw [hix]); rfl, by rw [hix], MW.mk h60 ⟨⟨(by rw [hix]; exact hu0), (by rw [hix]; exact hu1), (by rw [hix]; exact hu2), (by rw [hix]; exact hu3), (by rw [hix]; exact hu4), (by rw [hix]; exact hu5), (by rw [hix]; exact hu6)⟩, ⟨_, _, _, _, _, _, _, h75, h76, h77, h78, h79, h80, h81⟩, h61, ⟨h62, h63, h64, h65, h66, h67, h68, h69, h70⟩, h71, h72, h73, h74⟩⟩, hfr9.k⟩) (Nat.le_of_ble_eq_true rfl) (Nat.le_of_ble_eq_true rfl) dX8_unpin_17
  · rw [hb1] at efn1
    refine W.eq (g2 := F0 m 5 ls [.int 1]) (by rw [hb1]; rfl) ?_
    have hm1_ : fn1 m0 = some (eM r 1 (nI np) (nI ng) (nI nt) (nI kp) (nI rr) ck lim dz gd hih mih fh msh msm mso sp rf) := by rw [efn1]; exact hm_us
    have h30 : fn1 ((r 0)) = some (eI Γ 4 mon) := by rw [efn1]; exact (hm_un (hm_ne h0 hm0 (fun q => by cases q))).trans h0
    have h31 : fn1 ((r 1)) = some (eJ Γ 8 (fun i => b4 (gs i).2.1)) := by rw [efn1]; exact (hm_un (hm_ne hg1 hm0 (fun q => by cases q))).trans hg1
    have h32 : fn1 ((r 2)) = some (eI Γ 8 (fun i => nI (gs i).2.2.1)) := by rw [efn1]; exact (hm_un (hm_ne hg2 hm0 (fun q => by cases q))).trans hg2
    have h33 : fn1 ((r 3)) = some (eI Γ 8 (fun i => nI (gs i).1)) := by rw [efn1]; exact (hm_un (hm_ne hg3 hm0 (fun q => by cases q))).trans hg3
    have h34 : fn1 ((r 4)) = some (eI Γ 8 (fun i => (gs i).2.2.2.1)) := by rw [efn1]; exact (hm_un (hm_ne hg4 hm0 (fun q => by cases q))).trans hg4
    have h35 : fn1 ((r 5)) = some (eI Γ 8 (fun i => (gs i).2.2.2.2.1)) := by rw [efn1]; exact (hm_un (hm_ne hg5 hm0 (fun q => by cases q))).trans hg5
    have h36 : fn1 ((r 6)) = some (eI Γ 8 (fun i => (gs i).2.2.2.2.2.1)) := by rw [efn1]; exact (hm_un (hm_ne hg6 hm0 (fun q => by cases q))).trans hg6
    have h37 : fn1 ((r 7)) = some (eI Γ 8 (fun i => (gs i).2.2.2.2.2.2.1)) := by rw [efn1]; exact (hm_un (hm_ne hg7 hm0 (fun q => by cases q))).trans hg7
    have h38 : fn1 ((r 8)) = some (eI Γ 8 (fun i => (gs i).2.2.2.2.2.2.2.1)) := by rw [efn1]; exact (hm_un (hm_ne hg8 hm0 (fun q => by cases q))).trans hg8
    have h39 : fn1 ((r 9)) = some (eZ Γ 8 (fun i => bI (gs i).2.2.2.2.2.2.2.2)) := by rw [efn1]; exact (hm_un (hm_ne hg9 hm0 (fun q => by cases q))).trans hg9
    have h40 : fn1 ((r 10)) = some (eJ Γ 60 (fun i => b4 (ts i).2.1)) := by rw [efn1]; exact (hm_un (hm_ne ht10 hm0 (fun q => by cases q))).trans ht10
    have h41 : fn1 ((r 11)) = some (eI Γ 60 (fun i => nI (ts i).2.2.1)) := by rw [efn1]; exact (hm_un (hm_ne ht11 hm0 (fun q => by cases q))).trans ht11
    have h42 : fn1 ((r 12)) = some (eI Γ 60 (fun i => nI (ts i).1)) := by rw [efn1]; exact (hm_un (hm_ne ht12 hm0 (fun q => by cases q))).trans ht12
    have h43 : fn1 ((r 13)) = some (eI Γ 60 (fun i => (ts i).2.2.2)) := by rw [efn1]; exact (hm_un (hm_ne ht13 hm0 (fun q => by cases q))).trans ht13
    have h44 : fn1 ((r 14)) = some (eJ Γ 64 (fun j => (K j).1)) := by rw [efn1]; exact (hm_un (hm_ne hk0 hm0 (fun q => by cases q))).trans hk0
    have h45 : fn1 ((r 15)) = some (eI Γ 64 (fun j => (K j).2.1)) := by rw [efn1]; exact (hm_un (hm_ne hk1 hm0 (fun q => by cases q))).trans hk1
    have h46 : fn1 ((r 16)) = some (eI Γ 64 (fun j => (K j).2.2.1)) := by rw [efn1]; exact (hm_un (hm_ne hk2 hm0 (fun q => by cases q))).trans hk2
    have h47 : fn1 ((r 17)) = some (eI Γ 64 (fun j => (K j).2.2.2.1)) := by rw [efn1]; exact (hm_un (hm_ne hk3 hm0 (fun q => by cases q))).trans hk3
    have h48 : fn1 ((r 18)) = some (eI Γ 64 (fun j => (K j).2.2.2.2.1)) := by rw [efn1]; exact (hm_un (hm_ne hk4 hm0 (fun q => by cases q))).trans hk4
    have h49 : fn1 ((r 19)) = some (eI Γ 64 (fun j => (K j).2.2.2.2.2.1)) := by rw [efn1]; exact (hm_un (hm_ne hk5 hm0 (fun q => by cases q))).trans hk5
    have h50 : fn1 ((r 20)) = some (eI Γ 64 (fun j => (K j).2.2.2.2.2.2)) := by rw [efn1]; exact (hm_un (hm_ne hk6 hm0 (fun q => by cases q))).trans hk6
    have h51 : fn1 ((r 21)) = some (eJ Γ 6 pb) := by rw [efn1]; exact (hm_un (hm_ne hp0 hm0 (fun q => by cases q))).trans hp0
    have h52 : fn1 ((r 22)) = some (eI Γ 6 pz) := by rw [efn1]; exact (hm_un (hm_ne hp1 hm0 (fun q => by cases q))).trans hp1
    have h53 : fn1 ((r 23)) = some (eI Γ 6 pd) := by rw [efn1]; exact (hm_un (hm_ne hp2 hm0 (fun q => by cases q))).trans hp2
    have h54 : fn1 ((r 24)) = some (eI Γ 6 pn) := by rw [efn1]; exact (hm_un (hm_ne hp3 hm0 (fun q => by cases q))).trans hp3
    have h55 : fn1 ((r 25)) = some (eI Γ 6 pe) := by rw [efn1]; exact (hm_un (hm_ne hp4 hm0 (fun q => by cases q))).trans hp4
    have h56 : fn1 ((r 26)) = some (eI Γ 6 ph) := by rw [efn1]; exact (hm_un (hm_ne hp5 hm0 (fun q => by cases q))).trans hp5
    have h57 : fn1 ((r 27)) = some (eI Γ 6 pg) := by rw [efn1]; exact (hm_un (hm_ne hp6 hm0 (fun q => by cases q))).trans hp6
    refine lv_if_eq (tgt := 12) hx hb dX8_unpin_5 (by decide) (fun c82 => absurd c82 (by decide)) (fun _ => ?_)
    refine lv_iconst (v := 0) hx hb dX8_unpin_8 (by decide) ?_
    refine lv_goto (tgt := 17) hx hb dX8_unpin_9 (by decide) ?_
    have hfr9 : hm_fr (mS m0 r) f fn1 := by
      rw [efn1]
      exact (hm_fr.rf (S := mS m0 r)).up mS_0
    exact hm_iret hx hb hr hlocks hS hH (⟨Or.inr ⟨by rw [hb1]; exact (show (1 : Int32) ≠ 0 by decide), ⟨_, rfl⟩, by rw [hb1]; exact MW.mk hm1_ ⟨⟨h44, h45, h46, h47, h48, h49, h50⟩, ⟨_, _, _, _, _, _, _, h51, h52, h53, h54, h55, h56, h57⟩, h30, ⟨h31, h32, h33, h34, h35, h36, h37, h38, h39⟩, h40, h41, h42, h43⟩⟩, hfr9.k⟩) (Nat.le_of_ble_eq_true rfl) (Nat.le_of_ble_eq_true rfl) dX8_unpin_17
set_option maxHeartbeats 4000000 in
set_option maxRecDepth 100000 in
theorem w_X8_pin (Γ : Gm) (l : Launch) (m0 : Nat) (r : Nat → Nat) (th : Int32) (K : Nat → EV) (kp : Nat) (ck msh msm mso : Int32) (np : Nat) (mon : Nat → Int32) (ng : Nat) (gs : Nat → GS) (nt : Nat) (ts : Nat → TR) (lim : Int32) (rf sp : Int64) (rr : Nat) (v0 v1 : Int32) (f : Hm) (hM : MW Γ f m0 r th K kp ck msh msm mso np mon ng gs nt ts lim rf sp rr) (hnp : np ≤ 4) (hng : ng ≤ 8) (hnt : nt ≤ 60) (hr1 : 1 ≤ rr) (hrr : rr ≤ 64) (hkr : kp ≤ rr) (hrI : rI r) (hgs : GOK np ng gs) : Ct Γ l yX8_pin cX8_pin 4 (some .int) 4 0 0 [.ref m0, .int v0, .int v1] f (mP (if inB v0 (nI ng) then (if inR v1 1 4 then (if (!(gs (ix v0)).2.2.2.2.2.2.2.2) then (if (fstP (fun j => isFor (K j) (b4 (gs (ix v0)).2.1) (nI (gs (ix v0)).2.2.1) v1) kp).isSome then 0 else 4) else 3) else 2) else 1) (nI (cntP (fun j => bt ((pinK K (fstP (fun j => isFor (K j) (b4 (gs (ix v0)).2.1) (nI (gs (ix v0)).2.2.1) v1) kp) (ix v0)) j).2.2.2.2.2.2 (ix v0)) kp)) (mS m0 r) f (fun f' => MW Γ f' m0 r 0 ((pinK K (fstP (fun j => isFor (K j) (b4 (gs (ix v0)).2.1) (nI (gs (ix v0)).2.2.1) v1) kp) (ix v0))) kp ck msh msm mso np mon ng gs nt ts lim rf sp rr) (fun f' => MW Γ f' m0 r ((if inB v0 (nI ng) then (if inR v1 1 4 then (if (!(gs (ix v0)).2.2.2.2.2.2.2.2) then (if (fstP (fun j => isFor (K j) (b4 (gs (ix v0)).2.1) (nI (gs (ix v0)).2.2.1) v1) kp).isSome then 0 else 4) else 3) else 2) else 1)) K kp ck msh msm mso np mon ng gs nt ts lim rf sp rr)) := by
  refine Ct_of (by decide +kernel) (Nat.le_of_ble_eq_true rfl) ?_
  intro p e s m args below meth c hx hb hr hml hown hin hlocks hts hH hO hK ls hl
  have hl : lv_has ls 4 [(0, .ref m0), (1, .int v0), (2, .int v1)] := hl
  have hS : va_S (gA Γ) s.heap s.heap [] := va_S.rf
  obtain ⟨⟨dz, gd, hih, mih, fh, hm0⟩, hR⟩ := id hM
  obtain ⟨⟨hk0, hk1, hk2, hk3, hk4, hk5, hk6⟩, ⟨pb, pz, pd, pn, pe, ph, pg, hp0, hp1, hp2, hp3, hp4, hp5, hp6⟩, h0, ⟨hg1, hg2, hg3, hg4, hg5, hg6, hg7, hg8, hg9⟩, ht10, ht11, ht12, ht13⟩ := id hR
  refine lv_aload_n hx hb dX8_pin_0 rfl (lv_at hl 0 rfl) ?_
  refine lv_iload_n hx hb dX8_pin_1 rfl (lv_at hl 1 rfl) ?_
  refine lv_iload_n hx hb dX8_pin_2 rfl (lv_at hl 2 rfl) ?_
  refine hm_callV (rest := []) (k := 3) q6_21 q6_23 q1_9 q6_24 q0_32 rfl nm_X8_noDepth rfl hx hb hml hown hts hK hO hS hH hl.1 hm0 (c_X8_noDepth Γ l m0 r th (nI np) (nI ng) (nI nt) (nI kp) (nI rr) ck lim dz gd hih mih fh msh msm mso sp rf v0 v1 f hm0) ⟨Nat.le_of_ble_eq_true rfl, Nat.le_of_ble_eq_true rfl⟩ ⟨Nat.le_of_ble_eq_true rfl, Nat.le_of_ble_eq_true rfl⟩ rfl (Nat.le_of_ble_eq_true rfl) dX8_pin_3 (fun v_ fn1 H locs hp_ hH hS => ?_)
  obtain ⟨rfl, efn1⟩ := hp_
  have hcs : (inB v0 (nI ng) = true ∧ inR v1 1 4 = true) ∨ (inB v0 (nI ng) = true ∧ inR v1 1 4 = false) ∨ (inB v0 (nI ng) = false ∧ True) := by
    rcases bTF (inB v0 (nI ng)) with h | h
    · rcases bTF (inR v1 1 4) with h2 | h2
      · exact Or.inl ⟨h, h2⟩
      · exact Or.inr (Or.inl ⟨h, h2⟩)
    · exact Or.inr (Or.inr ⟨h, trivial⟩)
  rcases hcs with ⟨hb1, hb2⟩ | ⟨hb1, hb2⟩ | ⟨hb1, hb2⟩
  · rw [hb1, hb2] at efn1
    refine W.eq (g2 := F0 m 6 ls [.int 0]) (by rw [hb1, hb2]; rfl) ?_
    have hm1_ : fn1 m0 = some (eM r 0 (nI np) (nI ng) (nI nt) (nI kp) (nI rr) ck lim dz gd hih mih fh msh msm mso sp rf) := by rw [efn1]; exact hm_us
    have h2 : fn1 ((r 0)) = some (eI Γ 4 mon) := by rw [efn1]; exact (hm_un (hm_ne h0 hm0 (fun q => by cases q))).trans h0
    have h3 : fn1 ((r 1)) = some (eJ Γ 8 (fun i => b4 (gs i).2.1)) := by rw [efn1]; exact (hm_un (hm_ne hg1 hm0 (fun q => by cases q))).trans hg1
    have h4 : fn1 ((r 2)) = some (eI Γ 8 (fun i => nI (gs i).2.2.1)) := by rw [efn1]; exact (hm_un (hm_ne hg2 hm0 (fun q => by cases q))).trans hg2
    have h5 : fn1 ((r 3)) = some (eI Γ 8 (fun i => nI (gs i).1)) := by rw [efn1]; exact (hm_un (hm_ne hg3 hm0 (fun q => by cases q))).trans hg3
    have h6 : fn1 ((r 4)) = some (eI Γ 8 (fun i => (gs i).2.2.2.1)) := by rw [efn1]; exact (hm_un (hm_ne hg4 hm0 (fun q => by cases q))).trans hg4
    have h7 : fn1 ((r 5)) = some (eI Γ 8 (fun i => (gs i).2.2.2.2.1)) := by rw [efn1]; exact (hm_un (hm_ne hg5 hm0 (fun q => by cases q))).trans hg5
    have h8 : fn1 ((r 6)) = some (eI Γ 8 (fun i => (gs i).2.2.2.2.2.1)) := by rw [efn1]; exact (hm_un (hm_ne hg6 hm0 (fun q => by cases q))).trans hg6
    have h9 : fn1 ((r 7)) = some (eI Γ 8 (fun i => (gs i).2.2.2.2.2.2.1)) := by rw [efn1]; exact (hm_un (hm_ne hg7 hm0 (fun q => by cases q))).trans hg7
    have h10 : fn1 ((r 8)) = some (eI Γ 8 (fun i => (gs i).2.2.2.2.2.2.2.1)) := by rw [efn1]; exact (hm_un (hm_ne hg8 hm0 (fun q => by cases q))).trans hg8
    have h11 : fn1 ((r 9)) = some (eZ Γ 8 (fun i => bI (gs i).2.2.2.2.2.2.2.2)) := by rw [efn1]; exact (hm_un (hm_ne hg9 hm0 (fun q => by cases q))).trans hg9
    have h12 : fn1 ((r 10)) = some (eJ Γ 60 (fun i => b4 (ts i).2.1)) := by rw [efn1]; exact (hm_un (hm_ne ht10 hm0 (fun q => by cases q))).trans ht10
    have h13 : fn1 ((r 11)) = some (eI Γ 60 (fun i => nI (ts i).2.2.1)) := by rw [efn1]; exact (hm_un (hm_ne ht11 hm0 (fun q => by cases q))).trans ht11
    have h14 : fn1 ((r 12)) = some (eI Γ 60 (fun i => nI (ts i).1)) := by rw [efn1]; exact (hm_un (hm_ne ht12 hm0 (fun q => by cases q))).trans ht12
    have h15 : fn1 ((r 13)) = some (eI Γ 60 (fun i => (ts i).2.2.2)) := by rw [efn1]; exact (hm_un (hm_ne ht13 hm0 (fun q => by cases q))).trans ht13
    have h16 : fn1 ((r 14)) = some (eJ Γ 64 (fun j => (K j).1)) := by rw [efn1]; exact (hm_un (hm_ne hk0 hm0 (fun q => by cases q))).trans hk0
    have h17 : fn1 ((r 15)) = some (eI Γ 64 (fun j => (K j).2.1)) := by rw [efn1]; exact (hm_un (hm_ne hk1 hm0 (fun q => by cases q))).trans hk1
    have h18 : fn1 ((r 16)) = some (eI Γ 64 (fun j => (K j).2.2.1)) := by rw [efn1]; exact (hm_un (hm_ne hk2 hm0 (fun q => by cases q))).trans hk2
    have h19 : fn1 ((r 17)) = some (eI Γ 64 (fun j => (K j).2.2.2.1)) := by rw [efn1]; exact (hm_un (hm_ne hk3 hm0 (fun q => by cases q))).trans hk3
    have h20 : fn1 ((r 18)) = some (eI Γ 64 (fun j => (K j).2.2.2.2.1)) := by rw [efn1]; exact (hm_un (hm_ne hk4 hm0 (fun q => by cases q))).trans hk4
    have h21 : fn1 ((r 19)) = some (eI Γ 64 (fun j => (K j).2.2.2.2.2.1)) := by rw [efn1]; exact (hm_un (hm_ne hk5 hm0 (fun q => by cases q))).trans hk5
    have h22 : fn1 ((r 20)) = some (eI Γ 64 (fun j => (K j).2.2.2.2.2.2)) := by rw [efn1]; exact (hm_un (hm_ne hk6 hm0 (fun q => by cases q))).trans hk6
    have h23 : fn1 ((r 21)) = some (eJ Γ 6 pb) := by rw [efn1]; exact (hm_un (hm_ne hp0 hm0 (fun q => by cases q))).trans hp0
    have h24 : fn1 ((r 22)) = some (eI Γ 6 pz) := by rw [efn1]; exact (hm_un (hm_ne hp1 hm0 (fun q => by cases q))).trans hp1
    have h25 : fn1 ((r 23)) = some (eI Γ 6 pd) := by rw [efn1]; exact (hm_un (hm_ne hp2 hm0 (fun q => by cases q))).trans hp2
    have h26 : fn1 ((r 24)) = some (eI Γ 6 pn) := by rw [efn1]; exact (hm_un (hm_ne hp3 hm0 (fun q => by cases q))).trans hp3
    have h27 : fn1 ((r 25)) = some (eI Γ 6 pe) := by rw [efn1]; exact (hm_un (hm_ne hp4 hm0 (fun q => by cases q))).trans hp4
    have h28 : fn1 ((r 26)) = some (eI Γ 6 ph) := by rw [efn1]; exact (hm_un (hm_ne hp5 hm0 (fun q => by cases q))).trans hp5
    have h29 : fn1 ((r 27)) = some (eI Γ 6 pg) := by rw [efn1]; exact (hm_un (hm_ne hp6 hm0 (fun q => by cases q))).trans hp6
    obtain ⟨i, hi, rfl⟩ := (inB_iff (by omega)).mp hb1
    obtain ⟨d, hd, rfl⟩ := dep_inR hb2
    obtain ⟨hgo, hgw, hgz⟩ := hgs i hi
    have hi8 : i < 8 := by omega
    have hix : ix (nI i) = i := ix_nI (by omega)
    have hid : ix (nI d) = d := ix_nI (by omega)
    have ht15 : tl 15 (gs i).2.1 := tl_mono (tl12 (by omega)) (by decide)
    refine lv_if_ne (tgt := 31) hx hb dX8_pin_6 (by decide) (fun c86 => absurd (by decide) c86) (fun _ => ?_)
    refine lv_aload_n hx hb dX8_pin_9 rfl (lv_at hl 0 rfl) ?_
    refine lv_aload_n hx hb dX8_pin_10 rfl (lv_at hl 0 rfl) ?_
    refine gf_X8_38 hx hb hts hown hK hH hm1_ rfl dX8_pin_11 ?_
    refine lv_iload_n hx hb dX8_pin_14 rfl (lv_at hl 1 rfl) ?_
    refine hm_zald hx hb hK hH h11 (vp_in_nI hi8 (by decide)) dX8_pin_15 ?_
    refine lv_topi (fun v87 ev87 => ?_)
    replace ev87 : v87 = bI (gs i).2.2.2.2.2.2.2.2 := ev87.trans (by show bI (gs (nI i).toNatClampNeg).2.2.2.2.2.2.2.2 = _; rw [nI_clamp (n := i) (by omega)])
    subst ev87
    refine lv_if_ne (tgt := 23) hx hb dX8_pin_16 (by decide) (fun c88 => ?_) (fun c88 => ?_)
    · refine lv_iconst (v := 0) hx hb dX8_pin_23 (by decide) ?_
      refine lv_iconst (v := 3) hx hb dX8_pin_24 (by decide) ?_
      have hb89 : (!(gs i).2.2.2.2.2.2.2.2) = false := (by rw [bI_n.mp c88]; rfl)
      refine W.eq (g2 := F0 m 25 ls [.int 3, .int (bI (!(gs i).2.2.2.2.2.2.2.2)), .ref m0]) (by rw [hb89]; rfl) ?_
      refine hm_callV (rest := []) (k := 1) q5_119 q5_121 q1_9 q5_122 q0_17 rfl nm_X8_no rfl hx hb hml hown hts hK hO hS hH hl.1 hm1_ (c_X8_no Γ l m0 r 0 (nI np) (nI ng) (nI nt) (nI kp) (nI rr) ck lim dz gd hih mih fh msh msm mso sp rf (!(gs i).2.2.2.2.2.2.2.2) 3 fn1 hm1_) ⟨Nat.le_of_ble_eq_true rfl, Nat.le_of_ble_eq_true rfl⟩ ⟨Nat.le_of_ble_eq_true rfl, Nat.le_of_ble_eq_true rfl⟩ rfl (Nat.le_of_ble_eq_true rfl) dX8_pin_25 (fun v_ fn90 H locs hp_ hH hS => ?_)
      obtain ⟨rfl, efn90⟩ := hp_
      rw [hb89] at efn90
      refine W.eq (g2 := F0 m 28 ls [.int 1]) (by rw [hb89]; rfl) ?_
      have hm91 : fn90 m0 = some (eM r 3 (nI np) (nI ng) (nI nt) (nI kp) (nI rr) ck lim dz gd hih mih fh msh msm mso sp rf) := by rw [efn90]; exact hm_us
      have h92 : fn90 ((r 0)) = some (eI Γ 4 mon) := by rw [efn90]; exact (hm_un (hm_ne h2 hm1_ (fun q => by cases q))).trans h2
      have h93 : fn90 ((r 1)) = some (eJ Γ 8 (fun i => b4 (gs i).2.1)) := by rw [efn90]; exact (hm_un (hm_ne h3 hm1_ (fun q => by cases q))).trans h3
      have h94 : fn90 ((r 2)) = some (eI Γ 8 (fun i => nI (gs i).2.2.1)) := by rw [efn90]; exact (hm_un (hm_ne h4 hm1_ (fun q => by cases q))).trans h4
      have h95 : fn90 ((r 3)) = some (eI Γ 8 (fun i => nI (gs i).1)) := by rw [efn90]; exact (hm_un (hm_ne h5 hm1_ (fun q => by cases q))).trans h5
      have h96 : fn90 ((r 4)) = some (eI Γ 8 (fun i => (gs i).2.2.2.1)) := by rw [efn90]; exact (hm_un (hm_ne h6 hm1_ (fun q => by cases q))).trans h6
      have h97 : fn90 ((r 5)) = some (eI Γ 8 (fun i => (gs i).2.2.2.2.1)) := by rw [efn90]; exact (hm_un (hm_ne h7 hm1_ (fun q => by cases q))).trans h7
      have h98 : fn90 ((r 6)) = some (eI Γ 8 (fun i => (gs i).2.2.2.2.2.1)) := by rw [efn90]; exact (hm_un (hm_ne h8 hm1_ (fun q => by cases q))).trans h8
      have h99 : fn90 ((r 7)) = some (eI Γ 8 (fun i => (gs i).2.2.2.2.2.2.1)) := by rw [efn90]; exact (hm_un (hm_ne h9 hm1_ (fun q => by cases q))).trans h9
      have h100 : fn90 ((r 8)) = some (eI Γ 8 (fun i => (gs i).2.2.2.2.2.2.2.1)) := by rw [efn90]; exact (hm_un (hm_ne h10 hm1_ (fun q => by cases q))).trans h10
      have h101 : fn90 ((r 9)) = some (eZ Γ 8 (fun i => bI (gs i).2.2.2.2.2.2.2.2)) := by rw [efn90]; exact (hm_un (hm_ne h11 hm1_ (fun q => by cases q))).trans h11
      have h102 : fn90 ((r 10)) = some (eJ Γ 60 (fun i => b4 (ts i).2.1)) := by rw [efn90]; exact (hm_un (hm_ne h12 hm1_ (fun q => by cases q))).trans h12
      have h103 : fn90 ((r 11)) = some (eI Γ 60 (fun i => nI (ts i).2.2.1)) := by rw [efn90]; exact (hm_un (hm_ne h13 hm1_ (fun q => by cases q))).trans h13
      have h104 : fn90 ((r 12)) = some (eI Γ 60 (fun i => nI (ts i).1)) := by rw [efn90]; exact (hm_un (hm_ne h14 hm1_ (fun q => by cases q))).trans h14
      have h105 : fn90 ((r 13)) = some (eI Γ 60 (fun i => (ts i).2.2.2)) := by rw [efn90]; exact (hm_un (hm_ne h15 hm1_ (fun q => by cases q))).trans h15
      have h106 : fn90 ((r 14)) = some (eJ Γ 64 (fun j => (K j).1)) := by rw [efn90]; exact (hm_un (hm_ne h16 hm1_ (fun q => by cases q))).trans h16
      have h107 : fn90 ((r 15)) = some (eI Γ 64 (fun j => (K j).2.1)) := by rw [efn90]; exact (hm_un (hm_ne h17 hm1_ (fun q => by cases q))).trans h17
      have h108 : fn90 ((r 16)) = some (eI Γ 64 (fun j => (K j).2.2.1)) := by rw [efn90]; exact (hm_un (hm_ne h18 hm1_ (fun q => by cases q))).trans h18
      have h109 : fn90 ((r 17)) = some (eI Γ 64 (fun j => (K j).2.2.2.1)) := by rw [efn90]; exact (hm_un (hm_ne h19 hm1_ (fun q => by cases q))).trans h19
      have h110 : fn90 ((r 18)) = some (eI Γ 64 (fun j => (K j).2.2.2.2.1)) := by rw [efn90]; exact (hm_un (hm_ne h20 hm1_ (fun q => by cases q))).trans h20
      have h111 : fn90 ((r 19)) = some (eI Γ 64 (fun j => (K j).2.2.2.2.2.1)) := by rw [efn90]; exact (hm_un (hm_ne h21 hm1_ (fun q => by cases q))).trans h21
      have h112 : fn90 ((r 20)) = some (eI Γ 64 (fun j => (K j).2.2.2.2.2.2)) := by rw [efn90]; exact (hm_un (hm_ne h22 hm1_ (fun q => by cases q))).trans h22
      have h113 : fn90 ((r 21)) = some (eJ Γ 6 pb) := by rw [efn90]; exact (hm_un (hm_ne h23 hm1_ (fun q => by cases q))).trans h23
      have h114 : fn90 ((r 22)) = some (eI Γ 6 pz) := by rw [efn90]; exact (hm_un (hm_ne h24 hm1_ (fun q => by cases q))).trans h24
      have h115 : fn90 ((r 23)) = some (eI Γ 6 pd) := by rw [efn90]; exact (hm_un (hm_ne h25 hm1_ (fun q => by cases q))).trans h25
      have h116 : fn90 ((r 24)) = some (eI Γ 6 pn) := by rw [efn90]; exact (hm_un (hm_ne h26 hm1_ (fun q => by cases q))).trans h26
      have h117 : fn90 ((r 25)) = some (eI Γ 6 pe) := by rw [efn90]; exact (hm_un (hm_ne h27 hm1_ (fun q => by cases q))).trans h27
      have h118 : fn90 ((r 26)) = some (eI Γ 6 ph) := by rw [efn90]; exact (hm_un (hm_ne h28 hm1_ (fun q => by cases q))).trans h28
      have h119 : fn90 ((r 27)) = some (eI Γ 6 pg) := by rw [efn90]; exact (hm_un (hm_ne h29 hm1_ (fun q => by cases q))).trans h29
      refine lv_if_eq (tgt := 33) hx hb dX8_pin_28 (by decide) (fun c120 => absurd c120 (by decide)) (fun _ => ?_)
      refine lv_iconst (v := 0) hx hb dX8_pin_31 (by decide) ?_
      have hfr9 : hm_fr (mS m0 r) f fn90 := by
        rw [efn90, efn1]
        exact ((hm_fr.rf (S := mS m0 r)).up mS_0).up mS_0
      exact hm_iret hx hb hr hlocks hS hH (⟨Or.inr ⟨by rw [hb1]; rw [hb2]; (try rw [hix]); (try rw [hid]); rw [hb89]; exact (show (3 : Int32) ≠ 0 by decide), ⟨_, rfl⟩, by rw [hb1]; rw [hb2]; (try rw [hix]); (try rw [hid]); rw [hb89]; exact MW.mk hm91 ⟨⟨h106, h107, h108, h109, h110, h111, h112⟩, ⟨_, _, _, _, _, _, _, h113, h114, h115, h116, h117, h118, h119⟩, h92, ⟨h93, h94, h95, h96, h97, h98, h99, h100, h101⟩, h102, h103, h104, h105⟩⟩, hfr9.k⟩) (Nat.le_of_ble_eq_true rfl) (Nat.le_of_ble_eq_true rfl) dX8_pin_32
    · refine lv_iconst (v := 1) hx hb dX8_pin_19 (by decide) ?_
      refine lv_goto (tgt := 24) hx hb dX8_pin_20 (by decide) ?_
      refine lv_iconst (v := 3) hx hb dX8_pin_24 (by decide) ?_
      have hb121 : (!(gs i).2.2.2.2.2.2.2.2) = true := (by rw [bI_0.mp c88]; rfl)
      refine W.eq (g2 := F0 m 25 ls [.int 3, .int (bI (!(gs i).2.2.2.2.2.2.2.2)), .ref m0]) (by rw [hb121]; rfl) ?_
      refine hm_callV (rest := []) (k := 1) q5_119 q5_121 q1_9 q5_122 q0_17 rfl nm_X8_no rfl hx hb hml hown hts hK hO hS hH hl.1 hm1_ (c_X8_no Γ l m0 r 0 (nI np) (nI ng) (nI nt) (nI kp) (nI rr) ck lim dz gd hih mih fh msh msm mso sp rf (!(gs i).2.2.2.2.2.2.2.2) 3 fn1 hm1_) ⟨Nat.le_of_ble_eq_true rfl, Nat.le_of_ble_eq_true rfl⟩ ⟨Nat.le_of_ble_eq_true rfl, Nat.le_of_ble_eq_true rfl⟩ rfl (Nat.le_of_ble_eq_true rfl) dX8_pin_25 (fun v_ fn122 H locs hp_ hH hS => ?_)
      obtain ⟨rfl, efn122⟩ := hp_
      rw [hb121] at efn122
      refine W.eq (g2 := F0 m 28 ls [.int 0]) (by rw [hb121]; rfl) ?_
      have hm123 : fn122 m0 = some (eM r 0 (nI np) (nI ng) (nI nt) (nI kp) (nI rr) ck lim dz gd hih mih fh msh msm mso sp rf) := by rw [efn122]; exact hm_us
      have h124 : fn122 ((r 0)) = some (eI Γ 4 mon) := by rw [efn122]; exact (hm_un (hm_ne h2 hm1_ (fun q => by cases q))).trans h2
      have h125 : fn122 ((r 1)) = some (eJ Γ 8 (fun i => b4 (gs i).2.1)) := by rw [efn122]; exact (hm_un (hm_ne h3 hm1_ (fun q => by cases q))).trans h3
      have h126 : fn122 ((r 2)) = some (eI Γ 8 (fun i => nI (gs i).2.2.1)) := by rw [efn122]; exact (hm_un (hm_ne h4 hm1_ (fun q => by cases q))).trans h4
      have h127 : fn122 ((r 3)) = some (eI Γ 8 (fun i => nI (gs i).1)) := by rw [efn122]; exact (hm_un (hm_ne h5 hm1_ (fun q => by cases q))).trans h5
      have h128 : fn122 ((r 4)) = some (eI Γ 8 (fun i => (gs i).2.2.2.1)) := by rw [efn122]; exact (hm_un (hm_ne h6 hm1_ (fun q => by cases q))).trans h6
      have h129 : fn122 ((r 5)) = some (eI Γ 8 (fun i => (gs i).2.2.2.2.1)) := by rw [efn122]; exact (hm_un (hm_ne h7 hm1_ (fun q => by cases q))).trans h7
      have h130 : fn122 ((r 6)) = some (eI Γ 8 (fun i => (gs i).2.2.2.2.2.1)) := by rw [efn122]; exact (hm_un (hm_ne h8 hm1_ (fun q => by cases q))).trans h8
      have h131 : fn122 ((r 7)) = some (eI Γ 8 (fun i => (gs i).2.2.2.2.2.2.1)) := by rw [efn122]; exact (hm_un (hm_ne h9 hm1_ (fun q => by cases q))).trans h9
      have h132 : fn122 ((r 8)) = some (eI Γ 8 (fun i => (gs i).2.2.2.2.2.2.2.1)) := by rw [efn122]; exact (hm_un (hm_ne h10 hm1_ (fun q => by cases q))).trans h10
      have h133 : fn122 ((r 9)) = some (eZ Γ 8 (fun i => bI (gs i).2.2.2.2.2.2.2.2)) := by rw [efn122]; exact (hm_un (hm_ne h11 hm1_ (fun q => by cases q))).trans h11
      have h134 : fn122 ((r 10)) = some (eJ Γ 60 (fun i => b4 (ts i).2.1)) := by rw [efn122]; exact (hm_un (hm_ne h12 hm1_ (fun q => by cases q))).trans h12
      have h135 : fn122 ((r 11)) = some (eI Γ 60 (fun i => nI (ts i).2.2.1)) := by rw [efn122]; exact (hm_un (hm_ne h13 hm1_ (fun q => by cases q))).trans h13
      have h136 : fn122 ((r 12)) = some (eI Γ 60 (fun i => nI (ts i).1)) := by rw [efn122]; exact (hm_un (hm_ne h14 hm1_ (fun q => by cases q))).trans h14
      have h137 : fn122 ((r 13)) = some (eI Γ 60 (fun i => (ts i).2.2.2)) := by rw [efn122]; exact (hm_un (hm_ne h15 hm1_ (fun q => by cases q))).trans h15
      have h138 : fn122 ((r 14)) = some (eJ Γ 64 (fun j => (K j).1)) := by rw [efn122]; exact (hm_un (hm_ne h16 hm1_ (fun q => by cases q))).trans h16
      have h139 : fn122 ((r 15)) = some (eI Γ 64 (fun j => (K j).2.1)) := by rw [efn122]; exact (hm_un (hm_ne h17 hm1_ (fun q => by cases q))).trans h17
      have h140 : fn122 ((r 16)) = some (eI Γ 64 (fun j => (K j).2.2.1)) := by rw [efn122]; exact (hm_un (hm_ne h18 hm1_ (fun q => by cases q))).trans h18
      have h141 : fn122 ((r 17)) = some (eI Γ 64 (fun j => (K j).2.2.2.1)) := by rw [efn122]; exact (hm_un (hm_ne h19 hm1_ (fun q => by cases q))).trans h19
      have h142 : fn122 ((r 18)) = some (eI Γ 64 (fun j => (K j).2.2.2.2.1)) := by rw [efn122]; exact (hm_un (hm_ne h20 hm1_ (fun q => by cases q))).trans h20
      have h143 : fn122 ((r 19)) = some (eI Γ 64 (fun j => (K j).2.2.2.2.2.1)) := by rw [efn122]; exact (hm_un (hm_ne h21 hm1_ (fun q => by cases q))).trans h21
      have h144 : fn122 ((r 20)) = some (eI Γ 64 (fun j => (K j).2.2.2.2.2.2)) := by rw [efn122]; exact (hm_un (hm_ne h22 hm1_ (fun q => by cases q))).trans h22
      have h145 : fn122 ((r 21)) = some (eJ Γ 6 pb) := by rw [efn122]; exact (hm_un (hm_ne h23 hm1_ (fun q => by cases q))).trans h23
      have h146 : fn122 ((r 22)) = some (eI Γ 6 pz) := by rw [efn122]; exact (hm_un (hm_ne h24 hm1_ (fun q => by cases q))).trans h24
      have h147 : fn122 ((r 23)) = some (eI Γ 6 pd) := by rw [efn122]; exact (hm_un (hm_ne h25 hm1_ (fun q => by cases q))).trans h25
      have h148 : fn122 ((r 24)) = some (eI Γ 6 pn) := by rw [efn122]; exact (hm_un (hm_ne h26 hm1_ (fun q => by cases q))).trans h26
      have h149 : fn122 ((r 25)) = some (eI Γ 6 pe) := by rw [efn122]; exact (hm_un (hm_ne h27 hm1_ (fun q => by cases q))).trans h27
      have h150 : fn122 ((r 26)) = some (eI Γ 6 ph) := by rw [efn122]; exact (hm_un (hm_ne h28 hm1_ (fun q => by cases q))).trans h28
      have h151 : fn122 ((r 27)) = some (eI Γ 6 pg) := by rw [efn122]; exact (hm_un (hm_ne h29 hm1_ (fun q => by cases q))).trans h29
      refine lv_if_eq (tgt := 33) hx hb dX8_pin_28 (by decide) (fun _ => ?_) (fun c152 => absurd (by decide) c152)
      refine lv_aload_n hx hb dX8_pin_33 rfl (lv_at hl 0 rfl) ?_
      refine lv_aload_n hx hb dX8_pin_34 rfl (lv_at hl 0 rfl) ?_
      refine gf_X8_13 hx hb hts hown hK hH hm123 rfl dX8_pin_35 ?_
      refine lv_iload_n hx hb dX8_pin_38 rfl (lv_at hl 1 rfl) ?_
      refine hm_lald hx hb hK hH h125 (vp_in_nI hi8 (by decide)) dX8_pin_39 ?_
      refine lv_topl (fun v153 ev153 => ?_)
      replace ev153 : v153 = b4 (gs i).2.1 := ev153.trans (by show b4 (gs (nI i).toNatClampNeg).2.1 = _; rw [nI_clamp (n := i) (by omega)])
      subst ev153
      refine lv_aload_n hx hb dX8_pin_40 rfl (lv_at hl 0 rfl) ?_
      refine gf_X8_17 hx hb hts hown hK hH hm123 rfl dX8_pin_41 ?_
      refine lv_iload_n hx hb dX8_pin_44 rfl (lv_at hl 1 rfl) ?_
      refine hm_iald hx hb hK hH h126 (vp_in_nI hi8 (by decide)) dX8_pin_45 ?_
      refine lv_topi (fun v154 ev154 => ?_)
      replace ev154 : v154 = nI (gs i).2.2.1 := ev154.trans (by show nI (gs (nI i).toNatClampNeg).2.2.1 = _; rw [nI_clamp (n := i) (by omega)])
      subst ev154
      refine lv_iload_n hx hb dX8_pin_46 rfl (lv_at hl 2 rfl) ?_
      refine hm_callV (rest := []) (k := 1) q5_217 q5_219 q1_9 q5_220 q0_27 rfl nm_X8_find rfl hx hb hml hown hts hK hO hS hH hl.1 hm123 (c_X8_find Γ l m0 r 0 (nI np) (nI ng) (nI nt) (nI rr) ck lim dz gd hih mih fh msh msm mso sp rf kp K (b4 (gs i).2.1) (nI (gs i).2.2.1) (nI d) fn122 hm123 ⟨h138, h139, h140, h141, h142, h143, h144⟩ (by omega)) ⟨Nat.le_of_ble_eq_true rfl, Nat.le_of_ble_eq_true rfl⟩ ⟨Nat.le_of_ble_eq_true rfl, Nat.le_of_ble_eq_true rfl⟩ rfl (Nat.le_of_ble_eq_true rfl) dX8_pin_47 (fun v_ f_ H locs hp_ hH hS => ?_)
      obtain ⟨hp_, ef_⟩ := hp_
      rw [ef_] at hH
      clear ef_
      rcases hp_ with ⟨rfl, hno⟩ | ⟨a, ha, hpa, hpj, rfl⟩
      · refine W.eq (g2 := F0 m 50 ls [.int ((-1))]) rfl ?_
        have hfd : (fstP (fun j => isFor (K j) (b4 (gs i).2.1) (nI (gs i).2.2.1) (nI d)) kp).isSome = false := fI_none hno
        refine lv_istore_n (lv' := [(3, .int ((-1))), (0, .ref m0), (1, .int (nI i)), (2, .int (nI d))]) hx hb dX8_pin_50 rfl hl (by decide) rfl (fun ls hl => ?_)
        refine lv_aload_n hx hb dX8_pin_51 rfl (lv_at hl 1 rfl) ?_
        refine lv_iload_n hx hb dX8_pin_52 rfl (lv_at hl 0 rfl) ?_
        refine lv_iconst (v := (-1)) hx hb dX8_pin_53 (by decide) ?_
        refine lv_icmp_eq (tgt := 61) hx hb dX8_pin_54 (by decide) (fun _ => ?_) (fun c155 => absurd (by decide) c155)
        refine lv_iconst (v := 0) hx hb dX8_pin_61 (by decide) ?_
        refine lv_iconst (v := 4) hx hb dX8_pin_62 (by decide) ?_
        have hb156 : ((fstP (fun j => isFor (K j) (b4 (gs i).2.1) (nI (gs i).2.2.1) (nI d)) kp).isSome) = false := hfd
        refine W.eq (g2 := F0 m 63 ls [.int 4, .int (bI ((fstP (fun j => isFor (K j) (b4 (gs i).2.1) (nI (gs i).2.2.1) (nI d)) kp).isSome)), .ref m0]) (by rw [hb156]; rfl) ?_
        refine hm_callV (rest := []) (k := 1) q5_119 q5_121 q1_9 q5_122 q0_17 rfl nm_X8_no rfl hx hb hml hown hts hK hO hS hH hl.1 hm123 (c_X8_no Γ l m0 r 0 (nI np) (nI ng) (nI nt) (nI kp) (nI rr) ck lim dz gd hih mih fh msh msm mso sp rf ((fstP (fun j => isFor (K j) (b4 (gs i).2.1) (nI (gs i).2.2.1) (nI d)) kp).isSome) 4 fn122 hm123) ⟨Nat.le_of_ble_eq_true rfl, Nat.le_of_ble_eq_true rfl⟩ ⟨Nat.le_of_ble_eq_true rfl, Nat.le_of_ble_eq_true rfl⟩ rfl (Nat.le_of_ble_eq_true rfl) dX8_pin_63 (fun v_ fn157 H locs hp_ hH hS => ?_)
        obtain ⟨rfl, efn157⟩ := hp_
        rw [hb156] at efn157
        refine W.eq (g2 := F0 m 66 ls [.int 1]) (by rw [hb156]; rfl) ?_
        have hm158 : fn157 m0 = some (eM r 4 (nI np) (nI ng) (nI nt) (nI kp) (nI rr) ck lim dz gd hih mih fh msh msm mso sp rf) := by rw [efn157]; exact hm_us
        have h159 : fn157 ((r 0)) = some (eI Γ 4 mon) := by rw [efn157]; exact (hm_un (hm_ne h124 hm123 (fun q => by cases q))).trans h124
        have h160 : fn157 ((r 1)) = some (eJ Γ 8 (fun i => b4 (gs i).2.1)) := by rw [efn157]; exact (hm_un (hm_ne h125 hm123 (fun q => by cases q))).trans h125
        have h161 : fn157 ((r 2)) = some (eI Γ 8 (fun i => nI (gs i).2.2.1)) := by rw [efn157]; exact (hm_un (hm_ne h126 hm123 (fun q => by cases q))).trans h126
        have h162 : fn157 ((r 3)) = some (eI Γ 8 (fun i => nI (gs i).1)) := by rw [efn157]; exact (hm_un (hm_ne h127 hm123 (fun q => by cases q))).trans h127
        have h163 : fn157 ((r 4)) = some (eI Γ 8 (fun i => (gs i).2.2.2.1)) := by rw [efn157]; exact (hm_un (hm_ne h128 hm123 (fun q => by cases q))).trans h128
        have h164 : fn157 ((r 5)) = some (eI Γ 8 (fun i => (gs i).2.2.2.2.1)) := by rw [efn157]; exact (hm_un (hm_ne h129 hm123 (fun q => by cases q))).trans h129
        have h165 : fn157 ((r 6)) = some (eI Γ 8 (fun i => (gs i).2.2.2.2.2.1)) := by rw [efn157]; exact (hm_un (hm_ne h130 hm123 (fun q => by cases q))).trans h130
        have h166 : fn157 ((r 7)) = some (eI Γ 8 (fun i => (gs i).2.2.2.2.2.2.1)) := by rw [efn157]; exact (hm_un (hm_ne h131 hm123 (fun q => by cases q))).trans h131
        have h167 : fn157 ((r 8)) = some (eI Γ 8 (fun i => (gs i).2.2.2.2.2.2.2.1)) := by rw [efn157]; exact (hm_un (hm_ne h132 hm123 (fun q => by cases q))).trans h132
        have h168 : fn157 ((r 9)) = some (eZ Γ 8 (fun i => bI (gs i).2.2.2.2.2.2.2.2)) := by rw [efn157]; exact (hm_un (hm_ne h133 hm123 (fun q => by cases q))).trans h133
        have h169 : fn157 ((r 10)) = some (eJ Γ 60 (fun i => b4 (ts i).2.1)) := by rw [efn157]; exact (hm_un (hm_ne h134 hm123 (fun q => by cases q))).trans h134
        have h170 : fn157 ((r 11)) = some (eI Γ 60 (fun i => nI (ts i).2.2.1)) := by rw [efn157]; exact (hm_un (hm_ne h135 hm123 (fun q => by cases q))).trans h135
        have h171 : fn157 ((r 12)) = some (eI Γ 60 (fun i => nI (ts i).1)) := by rw [efn157]; exact (hm_un (hm_ne h136 hm123 (fun q => by cases q))).trans h136
        have h172 : fn157 ((r 13)) = some (eI Γ 60 (fun i => (ts i).2.2.2)) := by rw [efn157]; exact (hm_un (hm_ne h137 hm123 (fun q => by cases q))).trans h137
        have h173 : fn157 ((r 14)) = some (eJ Γ 64 (fun j => (K j).1)) := by rw [efn157]; exact (hm_un (hm_ne h138 hm123 (fun q => by cases q))).trans h138
        have h174 : fn157 ((r 15)) = some (eI Γ 64 (fun j => (K j).2.1)) := by rw [efn157]; exact (hm_un (hm_ne h139 hm123 (fun q => by cases q))).trans h139
        have h175 : fn157 ((r 16)) = some (eI Γ 64 (fun j => (K j).2.2.1)) := by rw [efn157]; exact (hm_un (hm_ne h140 hm123 (fun q => by cases q))).trans h140
        have h176 : fn157 ((r 17)) = some (eI Γ 64 (fun j => (K j).2.2.2.1)) := by rw [efn157]; exact (hm_un (hm_ne h141 hm123 (fun q => by cases q))).trans h141
        have h177 : fn157 ((r 18)) = some (eI Γ 64 (fun j => (K j).2.2.2.2.1)) := by rw [efn157]; exact (hm_un (hm_ne h142 hm123 (fun q => by cases q))).trans h142
        have h178 : fn157 ((r 19)) = some (eI Γ 64 (fun j => (K j).2.2.2.2.2.1)) := by rw [efn157]; exact (hm_un (hm_ne h143 hm123 (fun q => by cases q))).trans h143
        have h179 : fn157 ((r 20)) = some (eI Γ 64 (fun j => (K j).2.2.2.2.2.2)) := by rw [efn157]; exact (hm_un (hm_ne h144 hm123 (fun q => by cases q))).trans h144
        have h180 : fn157 ((r 21)) = some (eJ Γ 6 pb) := by rw [efn157]; exact (hm_un (hm_ne h145 hm123 (fun q => by cases q))).trans h145
        have h181 : fn157 ((r 22)) = some (eI Γ 6 pz) := by rw [efn157]; exact (hm_un (hm_ne h146 hm123 (fun q => by cases q))).trans h146
        have h182 : fn157 ((r 23)) = some (eI Γ 6 pd) := by rw [efn157]; exact (hm_un (hm_ne h147 hm123 (fun q => by cases q))).trans h147
        have h183 : fn157 ((r 24)) = some (eI Γ 6 pn) := by rw [efn157]; exact (hm_un (hm_ne h148 hm123 (fun q => by cases q))).trans h148
        have h184 : fn157 ((r 25)) = some (eI Γ 6 pe) := by rw [efn157]; exact (hm_un (hm_ne h149 hm123 (fun q => by cases q))).trans h149
        have h185 : fn157 ((r 26)) = some (eI Γ 6 ph) := by rw [efn157]; exact (hm_un (hm_ne h150 hm123 (fun q => by cases q))).trans h150
        have h186 : fn157 ((r 27)) = some (eI Γ 6 pg) := by rw [efn157]; exact (hm_un (hm_ne h151 hm123 (fun q => by cases q))).trans h151
        refine lv_if_eq (tgt := 71) hx hb dX8_pin_66 (by decide) (fun c187 => absurd c187 (by decide)) (fun _ => ?_)
        refine lv_iconst (v := 0) hx hb dX8_pin_69 (by decide) ?_
        have hfr9 : hm_fr (mS m0 r) f fn157 := by
          rw [efn157, efn122, efn1]
          exact (((hm_fr.rf (S := mS m0 r)).up mS_0).up mS_0).up mS_0
        exact hm_iret hx hb hr hlocks hS hH (⟨Or.inr ⟨by rw [hb1]; rw [hb2]; (try rw [hix]); (try rw [hid]); rw [hb121]; rw [hb156]; exact (show (4 : Int32) ≠ 0 by decide), ⟨_, rfl⟩, by rw [hb1]; rw [hb2]; (try rw [hix]); (try rw [hid]); rw [hb121]; rw [hb156]; exact MW.mk hm158 ⟨⟨h173, h174, h175, h176, h177, h178, h179⟩, ⟨_, _, _, _, _, _, _, h180, h181, h182, h183, h184, h185, h186⟩, h159, ⟨h160, h161, h162, h163, h164, h165, h166, h167, h168⟩, h169, h170, h171, h172⟩⟩, hfr9.k⟩) (Nat.le_of_ble_eq_true rfl) (Nat.le_of_ble_eq_true rfl) dX8_pin_70
      · refine W.eq (g2 := F0 m 50 ls [.int (nI a)]) rfl ?_
        have hfd : (fstP (fun j => isFor (K j) (b4 (gs i).2.1) (nI (gs i).2.2.1) (nI d)) kp) = some a := fI_some ha hpa hpj
        have ha64 : a < 64 := by omega
        refine lv_istore_n (lv' := [(3, .int (nI a)), (0, .ref m0), (1, .int (nI i)), (2, .int (nI d))]) hx hb dX8_pin_50 rfl hl (by decide) rfl (fun ls hl => ?_)
        refine lv_aload_n hx hb dX8_pin_51 rfl (lv_at hl 1 rfl) ?_
        refine lv_iload_n hx hb dX8_pin_52 rfl (lv_at hl 0 rfl) ?_
        refine lv_iconst (v := (-1)) hx hb dX8_pin_53 (by decide) ?_
        refine lv_icmp_eq (tgt := 61) hx hb dX8_pin_54 (by decide) (fun c188 => absurd c188 ((fun q => absurd (show (nI a) < 0 by rw [q]; decide) (nI_pos (by omega))))) (fun _ => ?_)
        refine lv_iconst (v := 1) hx hb dX8_pin_57 (by decide) ?_
        refine lv_goto (tgt := 62) hx hb dX8_pin_58 (by decide) ?_
        refine lv_iconst (v := 4) hx hb dX8_pin_62 (by decide) ?_
        have hb189 : ((fstP (fun j => isFor (K j) (b4 (gs i).2.1) (nI (gs i).2.2.1) (nI d)) kp).isSome) = true := (by rw [hfd]; rfl)
        refine W.eq (g2 := F0 m 63 ls [.int 4, .int (bI ((fstP (fun j => isFor (K j) (b4 (gs i).2.1) (nI (gs i).2.2.1) (nI d)) kp).isSome)), .ref m0]) (by rw [hb189]; rfl) ?_
        refine hm_callV (rest := []) (k := 1) q5_119 q5_121 q1_9 q5_122 q0_17 rfl nm_X8_no rfl hx hb hml hown hts hK hO hS hH hl.1 hm123 (c_X8_no Γ l m0 r 0 (nI np) (nI ng) (nI nt) (nI kp) (nI rr) ck lim dz gd hih mih fh msh msm mso sp rf ((fstP (fun j => isFor (K j) (b4 (gs i).2.1) (nI (gs i).2.2.1) (nI d)) kp).isSome) 4 fn122 hm123) ⟨Nat.le_of_ble_eq_true rfl, Nat.le_of_ble_eq_true rfl⟩ ⟨Nat.le_of_ble_eq_true rfl, Nat.le_of_ble_eq_true rfl⟩ rfl (Nat.le_of_ble_eq_true rfl) dX8_pin_63 (fun v_ fn190 H locs hp_ hH hS => ?_)
        obtain ⟨rfl, efn190⟩ := hp_
        rw [hb189] at efn190
        refine W.eq (g2 := F0 m 66 ls [.int 0]) (by rw [hb189]; rfl) ?_
        have hm191 : fn190 m0 = some (eM r 0 (nI np) (nI ng) (nI nt) (nI kp) (nI rr) ck lim dz gd hih mih fh msh msm mso sp rf) := by rw [efn190]; exact hm_us
        have h192 : fn190 ((r 0)) = some (eI Γ 4 mon) := by rw [efn190]; exact (hm_un (hm_ne h124 hm123 (fun q => by cases q))).trans h124
        have h193 : fn190 ((r 1)) = some (eJ Γ 8 (fun i => b4 (gs i).2.1)) := by rw [efn190]; exact (hm_un (hm_ne h125 hm123 (fun q => by cases q))).trans h125
        have h194 : fn190 ((r 2)) = some (eI Γ 8 (fun i => nI (gs i).2.2.1)) := by rw [efn190]; exact (hm_un (hm_ne h126 hm123 (fun q => by cases q))).trans h126
        have h195 : fn190 ((r 3)) = some (eI Γ 8 (fun i => nI (gs i).1)) := by rw [efn190]; exact (hm_un (hm_ne h127 hm123 (fun q => by cases q))).trans h127
        have h196 : fn190 ((r 4)) = some (eI Γ 8 (fun i => (gs i).2.2.2.1)) := by rw [efn190]; exact (hm_un (hm_ne h128 hm123 (fun q => by cases q))).trans h128
        have h197 : fn190 ((r 5)) = some (eI Γ 8 (fun i => (gs i).2.2.2.2.1)) := by rw [efn190]; exact (hm_un (hm_ne h129 hm123 (fun q => by cases q))).trans h129
        have h198 : fn190 ((r 6)) = some (eI Γ 8 (fun i => (gs i).2.2.2.2.2.1)) := by rw [efn190]; exact (hm_un (hm_ne h130 hm123 (fun q => by cases q))).trans h130
        have h199 : fn190 ((r 7)) = some (eI Γ 8 (fun i => (gs i).2.2.2.2.2.2.1)) := by rw [efn190]; exact (hm_un (hm_ne h131 hm123 (fun q => by cases q))).trans h131
        have h200 : fn190 ((r 8)) = some (eI Γ 8 (fun i => (gs i).2.2.2.2.2.2.2.1)) := by rw [efn190]; exact (hm_un (hm_ne h132 hm123 (fun q => by cases q))).trans h132
        have h201 : fn190 ((r 9)) = some (eZ Γ 8 (fun i => bI (gs i).2.2.2.2.2.2.2.2)) := by rw [efn190]; exact (hm_un (hm_ne h133 hm123 (fun q => by cases q))).trans h133
        have h202 : fn190 ((r 10)) = some (eJ Γ 60 (fun i => b4 (ts i).2.1)) := by rw [efn190]; exact (hm_un (hm_ne h134 hm123 (fun q => by cases q))).trans h134
        have h203 : fn190 ((r 11)) = some (eI Γ 60 (fun i => nI (ts i).2.2.1)) := by rw [efn190]; exact (hm_un (hm_ne h135 hm123 (fun q => by cases q))).trans h135
        have h204 : fn190 ((r 12)) = some (eI Γ 60 (fun i => nI (ts i).1)) := by rw [efn190]; exact (hm_un (hm_ne h136 hm123 (fun q => by cases q))).trans h136
        have h205 : fn190 ((r 13)) = some (eI Γ 60 (fun i => (ts i).2.2.2)) := by rw [efn190]; exact (hm_un (hm_ne h137 hm123 (fun q => by cases q))).trans h137
        have h206 : fn190 ((r 14)) = some (eJ Γ 64 (fun j => (K j).1)) := by rw [efn190]; exact (hm_un (hm_ne h138 hm123 (fun q => by cases q))).trans h138
        have h207 : fn190 ((r 15)) = some (eI Γ 64 (fun j => (K j).2.1)) := by rw [efn190]; exact (hm_un (hm_ne h139 hm123 (fun q => by cases q))).trans h139
        have h208 : fn190 ((r 16)) = some (eI Γ 64 (fun j => (K j).2.2.1)) := by rw [efn190]; exact (hm_un (hm_ne h140 hm123 (fun q => by cases q))).trans h140
        have h209 : fn190 ((r 17)) = some (eI Γ 64 (fun j => (K j).2.2.2.1)) := by rw [efn190]; exact (hm_un (hm_ne h141 hm123 (fun q => by cases q))).trans h141
        have h210 : fn190 ((r 18)) = some (eI Γ 64 (fun j => (K j).2.2.2.2.1)) := by rw [efn190]; exact (hm_un (hm_ne h142 hm123 (fun q => by cases q))).trans h142
        have h211 : fn190 ((r 19)) = some (eI Γ 64 (fun j => (K j).2.2.2.2.2.1)) := by rw [efn190]; exact (hm_un (hm_ne h143 hm123 (fun q => by cases q))).trans h143
        have h212 : fn190 ((r 20)) = some (eI Γ 64 (fun j => (K j).2.2.2.2.2.2)) := by rw [efn190]; exact (hm_un (hm_ne h144 hm123 (fun q => by cases q))).trans h144
        have h213 : fn190 ((r 21)) = some (eJ Γ 6 pb) := by rw [efn190]; exact (hm_un (hm_ne h145 hm123 (fun q => by cases q))).trans h145
        have h214 : fn190 ((r 22)) = some (eI Γ 6 pz) := by rw [efn190]; exact (hm_un (hm_ne h146 hm123 (fun q => by cases q))).trans h146
        have h215 : fn190 ((r 23)) = some (eI Γ 6 pd) := by rw [efn190]; exact (hm_un (hm_ne h147 hm123 (fun q => by cases q))).trans h147
        have h216 : fn190 ((r 24)) = some (eI Γ 6 pn) := by rw [efn190]; exact (hm_un (hm_ne h148 hm123 (fun q => by cases q))).trans h148
        have h217 : fn190 ((r 25)) = some (eI Γ 6 pe) := by rw [efn190]; exact (hm_un (hm_ne h149 hm123 (fun q => by cases q))).trans h149
        have h218 : fn190 ((r 26)) = some (eI Γ 6 ph) := by rw [efn190]; exact (hm_un (hm_ne h150 hm123 (fun q => by cases q))).trans h150
        have h219 : fn190 ((r 27)) = some (eI Γ 6 pg) := by rw [efn190]; exact (hm_un (hm_ne h151 hm123 (fun q => by cases q))).trans h151
        refine lv_if_eq (tgt := 71) hx hb dX8_pin_66 (by decide) (fun _ => ?_) (fun c220 => absurd (by decide) c220)
        refine lv_aload_n hx hb dX8_pin_71 rfl (lv_at hl 1 rfl) ?_
        refine gf_X8_72 hx hb hts hown hK hH hm191 rfl dX8_pin_72 ?_
        refine lv_iload_n hx hb dX8_pin_75 rfl (lv_at hl 0 rfl) ?_
        refine lv_dup2_11 hx hb dX8_pin_76 rfl rfl ?_
        refine hm_iald hx hb hK hH h212 (vp_in_nI ha64 (by decide)) dX8_pin_77 ?_
        refine lv_topi (fun v221 ev221 => ?_)
        replace ev221 : v221 = ((K a).2.2.2.2.2.2) := ev221.trans (by show (K (nI a).toNatClampNeg).2.2.2.2.2.2 = _; rw [nI_clamp (n := a) (by omega)])
        subst ev221
        refine lv_iconst (v := 1) hx hb dX8_pin_78 (by decide) ?_
        refine lv_iload_n hx hb dX8_pin_79 rfl (lv_at hl 2 rfl) ?_
        refine lv_ishl hx hb dX8_pin_80 ?_
        refine lv_topi (fun v222 ev222 => ?_)
        replace ev222 : v222 = (1 <<< (nI i &&& 31)) := ev222.trans (rfl)
        subst ev222
        refine lv_ior hx hb dX8_pin_81 ?_
        refine lv_topi (fun v223 ev223 => ?_)
        replace ev223 : v223 = ((K a).2.2.2.2.2.2 ||| (1 <<< (nI i &&& 31))) := ev223.trans (rfl)
        subst ev223
        refine hm_iast hx hb hK hO hS hH h212 (vp_in_nI ha64 (by decide)) dX8_pin_82 (fun H locs hH hS => ?_)
        rw [nI_clamp (n := a) (by omega)] at hH
        obtain ⟨f224, ef224⟩ : ∃ zz_, zz_ = hm_up fn190 ((r 20)) (eI Γ 64 (upd (fun j => (K j).2.2.2.2.2.2) a (((K a).2.2.2.2.2.2 ||| (1 <<< (nI i &&& 31)))))) := ⟨_, rfl⟩
        have hH : hm_H Γ f224 H := by rw [ef224]; exact hH
        have h225 : f224 ((r 20)) = some (eI Γ 64 (upd (fun j => (K j).2.2.2.2.2.2) a (((K a).2.2.2.2.2.2 ||| (1 <<< (nI i &&& 31)))))) := by rw [ef224]; exact hm_us
        have h226 : f224 m0 = some (eM r 0 (nI np) (nI ng) (nI nt) (nI kp) (nI rr) ck lim dz gd hih mih fh msh msm mso sp rf) := by rw [ef224]; exact (hm_un (hm_ne hm191 h212 (fun q => by cases q))).trans hm191
        have h227 : f224 ((r 0)) = some (eI Γ 4 mon) := by rw [ef224]; exact (hm_un (hrI 0 20 (by decide) (by decide) (by decide))).trans h192
        have h228 : f224 ((r 1)) = some (eJ Γ 8 (fun i => b4 (gs i).2.1)) := by rw [ef224]; exact (hm_un (hrI 1 20 (by decide) (by decide) (by decide))).trans h193
        have h229 : f224 ((r 2)) = some (eI Γ 8 (fun i => nI (gs i).2.2.1)) := by rw [ef224]; exact (hm_un (hrI 2 20 (by decide) (by decide) (by decide))).trans h194
        have h230 : f224 ((r 3)) = some (eI Γ 8 (fun i => nI (gs i).1)) := by rw [ef224]; exact (hm_un (hrI 3 20 (by decide) (by decide) (by decide))).trans h195
        have h231 : f224 ((r 4)) = some (eI Γ 8 (fun i => (gs i).2.2.2.1)) := by rw [ef224]; exact (hm_un (hrI 4 20 (by decide) (by decide) (by decide))).trans h196
        have h232 : f224 ((r 5)) = some (eI Γ 8 (fun i => (gs i).2.2.2.2.1)) := by rw [ef224]; exact (hm_un (hrI 5 20 (by decide) (by decide) (by decide))).trans h197
        have h233 : f224 ((r 6)) = some (eI Γ 8 (fun i => (gs i).2.2.2.2.2.1)) := by rw [ef224]; exact (hm_un (hrI 6 20 (by decide) (by decide) (by decide))).trans h198
        have h234 : f224 ((r 7)) = some (eI Γ 8 (fun i => (gs i).2.2.2.2.2.2.1)) := by rw [ef224]; exact (hm_un (hrI 7 20 (by decide) (by decide) (by decide))).trans h199
        have h235 : f224 ((r 8)) = some (eI Γ 8 (fun i => (gs i).2.2.2.2.2.2.2.1)) := by rw [ef224]; exact (hm_un (hrI 8 20 (by decide) (by decide) (by decide))).trans h200
        have h236 : f224 ((r 9)) = some (eZ Γ 8 (fun i => bI (gs i).2.2.2.2.2.2.2.2)) := by rw [ef224]; exact (hm_un (hrI 9 20 (by decide) (by decide) (by decide))).trans h201
        have h237 : f224 ((r 10)) = some (eJ Γ 60 (fun i => b4 (ts i).2.1)) := by rw [ef224]; exact (hm_un (hrI 10 20 (by decide) (by decide) (by decide))).trans h202
        have h238 : f224 ((r 11)) = some (eI Γ 60 (fun i => nI (ts i).2.2.1)) := by rw [ef224]; exact (hm_un (hrI 11 20 (by decide) (by decide) (by decide))).trans h203
        have h239 : f224 ((r 12)) = some (eI Γ 60 (fun i => nI (ts i).1)) := by rw [ef224]; exact (hm_un (hrI 12 20 (by decide) (by decide) (by decide))).trans h204
        have h240 : f224 ((r 13)) = some (eI Γ 60 (fun i => (ts i).2.2.2)) := by rw [ef224]; exact (hm_un (hrI 13 20 (by decide) (by decide) (by decide))).trans h205
        have h241 : f224 ((r 14)) = some (eJ Γ 64 (fun j => (K j).1)) := by rw [ef224]; exact (hm_un (hrI 14 20 (by decide) (by decide) (by decide))).trans h206
        have h242 : f224 ((r 15)) = some (eI Γ 64 (fun j => (K j).2.1)) := by rw [ef224]; exact (hm_un (hrI 15 20 (by decide) (by decide) (by decide))).trans h207
        have h243 : f224 ((r 16)) = some (eI Γ 64 (fun j => (K j).2.2.1)) := by rw [ef224]; exact (hm_un (hrI 16 20 (by decide) (by decide) (by decide))).trans h208
        have h244 : f224 ((r 17)) = some (eI Γ 64 (fun j => (K j).2.2.2.1)) := by rw [ef224]; exact (hm_un (hrI 17 20 (by decide) (by decide) (by decide))).trans h209
        have h245 : f224 ((r 18)) = some (eI Γ 64 (fun j => (K j).2.2.2.2.1)) := by rw [ef224]; exact (hm_un (hrI 18 20 (by decide) (by decide) (by decide))).trans h210
        have h246 : f224 ((r 19)) = some (eI Γ 64 (fun j => (K j).2.2.2.2.2.1)) := by rw [ef224]; exact (hm_un (hrI 19 20 (by decide) (by decide) (by decide))).trans h211
        have h247 : f224 ((r 21)) = some (eJ Γ 6 pb) := by rw [ef224]; exact (hm_un (hrI 21 20 (by decide) (by decide) (by decide))).trans h213
        have h248 : f224 ((r 22)) = some (eI Γ 6 pz) := by rw [ef224]; exact (hm_un (hrI 22 20 (by decide) (by decide) (by decide))).trans h214
        have h249 : f224 ((r 23)) = some (eI Γ 6 pd) := by rw [ef224]; exact (hm_un (hrI 23 20 (by decide) (by decide) (by decide))).trans h215
        have h250 : f224 ((r 24)) = some (eI Γ 6 pn) := by rw [ef224]; exact (hm_un (hrI 24 20 (by decide) (by decide) (by decide))).trans h216
        have h251 : f224 ((r 25)) = some (eI Γ 6 pe) := by rw [ef224]; exact (hm_un (hrI 25 20 (by decide) (by decide) (by decide))).trans h217
        have h252 : f224 ((r 26)) = some (eI Γ 6 ph) := by rw [ef224]; exact (hm_un (hrI 26 20 (by decide) (by decide) (by decide))).trans h218
        have h253 : f224 ((r 27)) = some (eI Γ 6 pg) := by rw [ef224]; exact (hm_un (hrI 27 20 (by decide) (by decide) (by decide))).trans h219
        refine lv_aload_n hx hb dX8_pin_83 rfl (lv_at hl 1 rfl) ?_
        refine lv_iload_n hx hb dX8_pin_84 rfl (lv_at hl 2 rfl) ?_
        refine hm_callV (rest := []) (k := 1) q6_29 q6_31 q1_9 q6_32 q0_33 rfl nm_X8_pinsOf rfl hx hb hml hown hts hK hO hS hH hl.1 h226 (c_X8_pinsOf Γ l m0 r 0 (nI np) (nI ng) (nI nt) (nI rr) ck lim dz gd hih mih fh msh msm mso sp rf kp (setK K a (setP (K a) ((K a).2.2.2.2.2.2 ||| (1 <<< (nI i &&& 31))))) i f224 h226 ⟨(h241.trans (congrArg some (congrArg (eJ Γ 64) (kset_p (fun x : EV => x.1) (K := K) (i := a) (y := (setP (K a) ((K a).2.2.2.2.2.2 ||| (1 <<< (nI i &&& 31))))) rfl)))), (h242.trans (congrArg some (congrArg (eI Γ 64) (kset_p (fun x : EV => x.2.1) (K := K) (i := a) (y := (setP (K a) ((K a).2.2.2.2.2.2 ||| (1 <<< (nI i &&& 31))))) rfl)))), (h243.trans (congrArg some (congrArg (eI Γ 64) (kset_p (fun x : EV => x.2.2.1) (K := K) (i := a) (y := (setP (K a) ((K a).2.2.2.2.2.2 ||| (1 <<< (nI i &&& 31))))) rfl)))), (h244.trans (congrArg some (congrArg (eI Γ 64) (kset_p (fun x : EV => x.2.2.2.1) (K := K) (i := a) (y := (setP (K a) ((K a).2.2.2.2.2.2 ||| (1 <<< (nI i &&& 31))))) rfl)))), (h245.trans (congrArg some (congrArg (eI Γ 64) (kset_p (fun x : EV => x.2.2.2.2.1) (K := K) (i := a) (y := (setP (K a) ((K a).2.2.2.2.2.2 ||| (1 <<< (nI i &&& 31))))) rfl)))), (h246.trans (congrArg some (congrArg (eI Γ 64) (kset_p (fun x : EV => x.2.2.2.2.2.1) (K := K) (i := a) (y := (setP (K a) ((K a).2.2.2.2.2.2 ||| (1 <<< (nI i &&& 31))))) rfl)))), (h225.trans (congrArg some (congrArg (eI Γ 64) (upd_fun (fun x : EV => x.2.2.2.2.2.2) K a (setP (K a) ((K a).2.2.2.2.2.2 ||| (1 <<< (nI i &&& 31))))))))⟩ (by omega) hi8) ⟨Nat.le_of_ble_eq_true rfl, Nat.le_of_ble_eq_true rfl⟩ ⟨Nat.le_of_ble_eq_true rfl, Nat.le_of_ble_eq_true rfl⟩ rfl (Nat.le_of_ble_eq_true rfl) dX8_pin_85 (fun v_ f_ H locs hp_ hH hS => ?_)
        obtain ⟨rfl, ef_⟩ := hp_
        rw [ef_] at hH
        clear ef_
        refine W.eq (g2 := F0 m 88 ls [.int (nI (cntP (fun j => bt (setK K a (setP (K a) ((K a).2.2.2.2.2.2 ||| (1 <<< (nI i &&& 31)))) j).2.2.2.2.2.2 i) kp))]) rfl ?_
        have hfr9 : hm_fr (mS m0 r) f f224 := by
          rw [ef224, efn190, efn122, efn1]
          exact ((((hm_fr.rf (S := mS m0 r)).up mS_0).up mS_0).up mS_0).up (mS_r (by decide))
        exact hm_iret hx hb hr hlocks hS hH (⟨Or.inl ⟨by rw [hb1]; rw [hb2]; (try rw [hix]); (try rw [hid]); rw [hb121]; rw [hb189]; rfl, by rw [hix, hfd]; rfl, MW.mk h226 ⟨⟨(by rw [hix, hfd]; exact (h241.trans (congrArg some (congrArg (eJ Γ 64) (kset_p (fun x : EV => x.1) (K := K) (i := a) (y := (setP (K a) ((K a).2.2.2.2.2.2 ||| (1 <<< (nI i &&& 31))))) rfl))))), (by rw [hix, hfd]; exact (h242.trans (congrArg some (congrArg (eI Γ 64) (kset_p (fun x : EV => x.2.1) (K := K) (i := a) (y := (setP (K a) ((K a).2.2.2.2.2.2 ||| (1 <<< (nI i &&& 31))))) rfl))))), (by rw [hix, hfd]; exact (h243.trans (congrArg some (congrArg (eI Γ 64) (kset_p (fun x : EV => x.2.2.1) (K := K) (i := a) (y := (setP (K a) ((K a).2.2.2.2.2.2 ||| (1 <<< (nI i &&& 31))))) rfl))))), (by rw [hix, hfd]; exact (h244.trans (congrArg some (congrArg (eI Γ 64) (kset_p (fun x : EV => x.2.2.2.1) (K := K) (i := a) (y := (setP (K a) ((K a).2.2.2.2.2.2 ||| (1 <<< (nI i &&& 31))))) rfl))))), (by rw [hix, hfd]; exact (h245.trans (congrArg some (congrArg (eI Γ 64) (kset_p (fun x : EV => x.2.2.2.2.1) (K := K) (i := a) (y := (setP (K a) ((K a).2.2.2.2.2.2 ||| (1 <<< (nI i &&& 31))))) rfl))))), (by rw [hix, hfd]; exact (h246.trans (congrArg some (congrArg (eI Γ 64) (kset_p (fun x : EV => x.2.2.2.2.2.1) (K := K) (i := a) (y := (setP (K a) ((K a).2.2.2.2.2.2 ||| (1 <<< (nI i &&& 31))))) rfl))))), (by rw [hix, hfd]; exact (h225.trans (congrArg some (congrArg (eI Γ 64) (upd_fun (fun x : EV => x.2.2.2.2.2.2) K a (setP (K a) ((K a).2.2.2.2.2.2 ||| (1 <<< (nI i &&& 31)))))))))⟩, ⟨_, _, _, _, _, _, _, h247, h248, h249, h250, h251, h252, h253⟩, h227, ⟨h228, h229, h230, h231, h232, h233, h234, h235, h236⟩, h237, h238, h239, h240⟩⟩, hfr9.k⟩) (Nat.le_of_ble_eq_true rfl) (Nat.le_of_ble_eq_true rfl) dX8_pin_88
  · rw [hb1, hb2] at efn1
    refine W.eq (g2 := F0 m 6 ls [.int 1]) (by rw [hb1, hb2]; rfl) ?_
    have hm1_ : fn1 m0 = some (eM r 2 (nI np) (nI ng) (nI nt) (nI kp) (nI rr) ck lim dz gd hih mih fh msh msm mso sp rf) := by rw [efn1]; exact hm_us
    have h30 : fn1 ((r 0)) = some (eI Γ 4 mon) := by rw [efn1]; exact (hm_un (hm_ne h0 hm0 (fun q => by cases q))).trans h0
    have h31 : fn1 ((r 1)) = some (eJ Γ 8 (fun i => b4 (gs i).2.1)) := by rw [efn1]; exact (hm_un (hm_ne hg1 hm0 (fun q => by cases q))).trans hg1
    have h32 : fn1 ((r 2)) = some (eI Γ 8 (fun i => nI (gs i).2.2.1)) := by rw [efn1]; exact (hm_un (hm_ne hg2 hm0 (fun q => by cases q))).trans hg2
    have h33 : fn1 ((r 3)) = some (eI Γ 8 (fun i => nI (gs i).1)) := by rw [efn1]; exact (hm_un (hm_ne hg3 hm0 (fun q => by cases q))).trans hg3
    have h34 : fn1 ((r 4)) = some (eI Γ 8 (fun i => (gs i).2.2.2.1)) := by rw [efn1]; exact (hm_un (hm_ne hg4 hm0 (fun q => by cases q))).trans hg4
    have h35 : fn1 ((r 5)) = some (eI Γ 8 (fun i => (gs i).2.2.2.2.1)) := by rw [efn1]; exact (hm_un (hm_ne hg5 hm0 (fun q => by cases q))).trans hg5
    have h36 : fn1 ((r 6)) = some (eI Γ 8 (fun i => (gs i).2.2.2.2.2.1)) := by rw [efn1]; exact (hm_un (hm_ne hg6 hm0 (fun q => by cases q))).trans hg6
    have h37 : fn1 ((r 7)) = some (eI Γ 8 (fun i => (gs i).2.2.2.2.2.2.1)) := by rw [efn1]; exact (hm_un (hm_ne hg7 hm0 (fun q => by cases q))).trans hg7
    have h38 : fn1 ((r 8)) = some (eI Γ 8 (fun i => (gs i).2.2.2.2.2.2.2.1)) := by rw [efn1]; exact (hm_un (hm_ne hg8 hm0 (fun q => by cases q))).trans hg8
    have h39 : fn1 ((r 9)) = some (eZ Γ 8 (fun i => bI (gs i).2.2.2.2.2.2.2.2)) := by rw [efn1]; exact (hm_un (hm_ne hg9 hm0 (fun q => by cases q))).trans hg9
    have h40 : fn1 ((r 10)) = some (eJ Γ 60 (fun i => b4 (ts i).2.1)) := by rw [efn1]; exact (hm_un (hm_ne ht10 hm0 (fun q => by cases q))).trans ht10
    have h41 : fn1 ((r 11)) = some (eI Γ 60 (fun i => nI (ts i).2.2.1)) := by rw [efn1]; exact (hm_un (hm_ne ht11 hm0 (fun q => by cases q))).trans ht11
    have h42 : fn1 ((r 12)) = some (eI Γ 60 (fun i => nI (ts i).1)) := by rw [efn1]; exact (hm_un (hm_ne ht12 hm0 (fun q => by cases q))).trans ht12
    have h43 : fn1 ((r 13)) = some (eI Γ 60 (fun i => (ts i).2.2.2)) := by rw [efn1]; exact (hm_un (hm_ne ht13 hm0 (fun q => by cases q))).trans ht13
    have h44 : fn1 ((r 14)) = some (eJ Γ 64 (fun j => (K j).1)) := by rw [efn1]; exact (hm_un (hm_ne hk0 hm0 (fun q => by cases q))).trans hk0
    have h45 : fn1 ((r 15)) = some (eI Γ 64 (fun j => (K j).2.1)) := by rw [efn1]; exact (hm_un (hm_ne hk1 hm0 (fun q => by cases q))).trans hk1
    have h46 : fn1 ((r 16)) = some (eI Γ 64 (fun j => (K j).2.2.1)) := by rw [efn1]; exact (hm_un (hm_ne hk2 hm0 (fun q => by cases q))).trans hk2
    have h47 : fn1 ((r 17)) = some (eI Γ 64 (fun j => (K j).2.2.2.1)) := by rw [efn1]; exact (hm_un (hm_ne hk3 hm0 (fun q => by cases q))).trans hk3
    have h48 : fn1 ((r 18)) = some (eI Γ 64 (fun j => (K j).2.2.2.2.1)) := by rw [efn1]; exact (hm_un (hm_ne hk4 hm0 (fun q => by cases q))).trans hk4
    have h49 : fn1 ((r 19)) = some (eI Γ 64 (fun j => (K j).2.2.2.2.2.1)) := by rw [efn1]; exact (hm_un (hm_ne hk5 hm0 (fun q => by cases q))).trans hk5
    have h50 : fn1 ((r 20)) = some (eI Γ 64 (fun j => (K j).2.2.2.2.2.2)) := by rw [efn1]; exact (hm_un (hm_ne hk6 hm0 (fun q => by cases q))).trans hk6
    have h51 : fn1 ((r 21)) = some (eJ Γ 6 pb) := by rw [efn1]; exact (hm_un (hm_ne hp0 hm0 (fun q => by cases q))).trans hp0
    have h52 : fn1 ((r 22)) = some (eI Γ 6 pz) := by rw [efn1]; exact (hm_un (hm_ne hp1 hm0 (fun q => by cases q))).trans hp1
    have h53 : fn1 ((r 23)) = some (eI Γ 6 pd) := by rw [efn1]; exact (hm_un (hm_ne hp2 hm0 (fun q => by cases q))).trans hp2
    have h54 : fn1 ((r 24)) = some (eI Γ 6 pn) := by rw [efn1]; exact (hm_un (hm_ne hp3 hm0 (fun q => by cases q))).trans hp3
    have h55 : fn1 ((r 25)) = some (eI Γ 6 pe) := by rw [efn1]; exact (hm_un (hm_ne hp4 hm0 (fun q => by cases q))).trans hp4
    have h56 : fn1 ((r 26)) = some (eI Γ 6 ph) := by rw [efn1]; exact (hm_un (hm_ne hp5 hm0 (fun q => by cases q))).trans hp5
    have h57 : fn1 ((r 27)) = some (eI Γ 6 pg) := by rw [efn1]; exact (hm_un (hm_ne hp6 hm0 (fun q => by cases q))).trans hp6
    refine lv_if_ne (tgt := 31) hx hb dX8_pin_6 (by decide) (fun _ => ?_) (fun c254 => absurd c254 (by decide))
    refine lv_iconst (v := 0) hx hb dX8_pin_31 (by decide) ?_
    have hfr9 : hm_fr (mS m0 r) f fn1 := by
      rw [efn1]
      exact (hm_fr.rf (S := mS m0 r)).up mS_0
    exact hm_iret hx hb hr hlocks hS hH (⟨Or.inr ⟨by rw [hb1]; rw [hb2]; exact (show (2 : Int32) ≠ 0 by decide), ⟨_, rfl⟩, by rw [hb1]; rw [hb2]; exact MW.mk hm1_ ⟨⟨h44, h45, h46, h47, h48, h49, h50⟩, ⟨_, _, _, _, _, _, _, h51, h52, h53, h54, h55, h56, h57⟩, h30, ⟨h31, h32, h33, h34, h35, h36, h37, h38, h39⟩, h40, h41, h42, h43⟩⟩, hfr9.k⟩) (Nat.le_of_ble_eq_true rfl) (Nat.le_of_ble_eq_true rfl) dX8_pin_32
  · rw [hb1] at efn1
    refine W.eq (g2 := F0 m 6 ls [.int 1]) (by rw [hb1]; rfl) ?_
    have hm1_ : fn1 m0 = some (eM r 1 (nI np) (nI ng) (nI nt) (nI kp) (nI rr) ck lim dz gd hih mih fh msh msm mso sp rf) := by rw [efn1]; exact hm_us
    have h58 : fn1 ((r 0)) = some (eI Γ 4 mon) := by rw [efn1]; exact (hm_un (hm_ne h0 hm0 (fun q => by cases q))).trans h0
    have h59 : fn1 ((r 1)) = some (eJ Γ 8 (fun i => b4 (gs i).2.1)) := by rw [efn1]; exact (hm_un (hm_ne hg1 hm0 (fun q => by cases q))).trans hg1
    have h60 : fn1 ((r 2)) = some (eI Γ 8 (fun i => nI (gs i).2.2.1)) := by rw [efn1]; exact (hm_un (hm_ne hg2 hm0 (fun q => by cases q))).trans hg2
    have h61 : fn1 ((r 3)) = some (eI Γ 8 (fun i => nI (gs i).1)) := by rw [efn1]; exact (hm_un (hm_ne hg3 hm0 (fun q => by cases q))).trans hg3
    have h62 : fn1 ((r 4)) = some (eI Γ 8 (fun i => (gs i).2.2.2.1)) := by rw [efn1]; exact (hm_un (hm_ne hg4 hm0 (fun q => by cases q))).trans hg4
    have h63 : fn1 ((r 5)) = some (eI Γ 8 (fun i => (gs i).2.2.2.2.1)) := by rw [efn1]; exact (hm_un (hm_ne hg5 hm0 (fun q => by cases q))).trans hg5
    have h64 : fn1 ((r 6)) = some (eI Γ 8 (fun i => (gs i).2.2.2.2.2.1)) := by rw [efn1]; exact (hm_un (hm_ne hg6 hm0 (fun q => by cases q))).trans hg6
    have h65 : fn1 ((r 7)) = some (eI Γ 8 (fun i => (gs i).2.2.2.2.2.2.1)) := by rw [efn1]; exact (hm_un (hm_ne hg7 hm0 (fun q => by cases q))).trans hg7
    have h66 : fn1 ((r 8)) = some (eI Γ 8 (fun i => (gs i).2.2.2.2.2.2.2.1)) := by rw [efn1]; exact (hm_un (hm_ne hg8 hm0 (fun q => by cases q))).trans hg8
    have h67 : fn1 ((r 9)) = some (eZ Γ 8 (fun i => bI (gs i).2.2.2.2.2.2.2.2)) := by rw [efn1]; exact (hm_un (hm_ne hg9 hm0 (fun q => by cases q))).trans hg9
    have h68 : fn1 ((r 10)) = some (eJ Γ 60 (fun i => b4 (ts i).2.1)) := by rw [efn1]; exact (hm_un (hm_ne ht10 hm0 (fun q => by cases q))).trans ht10
    have h69 : fn1 ((r 11)) = some (eI Γ 60 (fun i => nI (ts i).2.2.1)) := by rw [efn1]; exact (hm_un (hm_ne ht11 hm0 (fun q => by cases q))).trans ht11
    have h70 : fn1 ((r 12)) = some (eI Γ 60 (fun i => nI (ts i).1)) := by rw [efn1]; exact (hm_un (hm_ne ht12 hm0 (fun q => by cases q))).trans ht12
    have h71 : fn1 ((r 13)) = some (eI Γ 60 (fun i => (ts i).2.2.2)) := by rw [efn1]; exact (hm_un (hm_ne ht13 hm0 (fun q => by cases q))).trans ht13
    have h72 : fn1 ((r 14)) = some (eJ Γ 64 (fun j => (K j).1)) := by rw [efn1]; exact (hm_un (hm_ne hk0 hm0 (fun q => by cases q))).trans hk0
    have h73 : fn1 ((r 15)) = some (eI Γ 64 (fun j => (K j).2.1)) := by rw [efn1]; exact (hm_un (hm_ne hk1 hm0 (fun q => by cases q))).trans hk1
    have h74 : fn1 ((r 16)) = some (eI Γ 64 (fun j => (K j).2.2.1)) := by rw [efn1]; exact (hm_un (hm_ne hk2 hm0 (fun q => by cases q))).trans hk2
    have h75 : fn1 ((r 17)) = some (eI Γ 64 (fun j => (K j).2.2.2.1)) := by rw [efn1]; exact (hm_un (hm_ne hk3 hm0 (fun q => by cases q))).trans hk3
    have h76 : fn1 ((r 18)) = some (eI Γ 64 (fun j => (K j).2.2.2.2.1)) := by rw [efn1]; exact (hm_un (hm_ne hk4 hm0 (fun q => by cases q))).trans hk4
    have h77 : fn1 ((r 19)) = some (eI Γ 64 (fun j => (K j).2.2.2.2.2.1)) := by rw [efn1]; exact (hm_un (hm_ne hk5 hm0 (fun q => by cases q))).trans hk5
    have h78 : fn1 ((r 20)) = some (eI Γ 64 (fun j => (K j).2.2.2.2.2.2)) := by rw [efn1]; exact (hm_un (hm_ne hk6 hm0 (fun q => by cases q))).trans hk6
    have h79 : fn1 ((r 21)) = some (eJ Γ 6 pb) := by rw [efn1]; exact (hm_un (hm_ne hp0 hm0 (fun q => by cases q))).trans hp0
    have h80 : fn1 ((r 22)) = some (eI Γ 6 pz) := by rw [efn1]; exact (hm_un (hm_ne hp1 hm0 (fun q => by cases q))).trans hp1
    have h81 : fn1 ((r 23)) = some (eI Γ 6 pd) := by rw [efn1]; exact (hm_un (hm_ne hp2 hm0 (fun q => by cases q))).trans hp2
    have h82 : fn1 ((r 24)) = some (eI Γ 6 pn) := by rw [efn1]; exact (hm_un (hm_ne hp3 hm0 (fun q => by cases q))).trans hp3
    have h83 : fn1 ((r 25)) = some (eI Γ 6 pe) := by rw [efn1]; exact (hm_un (hm_ne hp4 hm0 (fun q => by cases q))).trans hp4
    have h84 : fn1 ((r 26)) = some (eI Γ 6 ph) := by rw [efn1]; exact (hm_un (hm_ne hp5 hm0 (fun q => by cases q))).trans hp5
    have h85 : fn1 ((r 27)) = some (eI Γ 6 pg) := by rw [efn1]; exact (hm_un (hm_ne hp6 hm0 (fun q => by cases q))).trans hp6
    refine lv_if_ne (tgt := 31) hx hb dX8_pin_6 (by decide) (fun _ => ?_) (fun c255 => absurd c255 (by decide))
    refine lv_iconst (v := 0) hx hb dX8_pin_31 (by decide) ?_
    have hfr9 : hm_fr (mS m0 r) f fn1 := by
      rw [efn1]
      exact (hm_fr.rf (S := mS m0 r)).up mS_0
    exact hm_iret hx hb hr hlocks hS hH (⟨Or.inr ⟨by rw [hb1]; exact (show (1 : Int32) ≠ 0 by decide), ⟨_, rfl⟩, by rw [hb1]; exact MW.mk hm1_ ⟨⟨h72, h73, h74, h75, h76, h77, h78⟩, ⟨_, _, _, _, _, _, _, h79, h80, h81, h82, h83, h84, h85⟩, h58, ⟨h59, h60, h61, h62, h63, h64, h65, h66, h67⟩, h68, h69, h70, h71⟩⟩, hfr9.k⟩) (Nat.le_of_ble_eq_true rfl) (Nat.le_of_ble_eq_true rfl) dX8_pin_32
set_option maxHeartbeats 4000000 in
set_option maxRecDepth 100000 in
theorem w_X8_judge (Γ : Gm) (l : Launch) (m0 : Nat) (r : Nat → Nat) (th : Int32) (K : Nat → EV) (kp : Nat) (ck msh msm mso : Int32) (np : Nat) (mon : Nat → Int32) (ng : Nat) (gs : Nat → GS) (nt : Nat) (ts : Nat → TR) (lim : Int32) (rf sp : Int64) (rr : Nat) (v0 : Int32) (f : Hm) (hM : MW Γ f m0 r th K kp ck msh msm mso np mon ng gs nt ts lim rf sp rr) (hnp : np ≤ 4) (hng : ng ≤ 8) (hnt : nt ≤ 60) (hr1 : 1 ≤ rr) (hrr : rr ≤ 64) (hkr : kp ≤ rr) (hrI : rI r) (hgs : GOK np ng gs) : Ct Γ l yX8_judge cX8_judge 3 (some .int) 3 0 0 [.ref m0, .int v0] f (mP (if inB v0 (nI ng) then (if (!(gs (ix v0)).2.2.2.2.2.2.2.2) then 0 else 2) else 1) ((if (gs (ix v0)).2.2.2.2.2.2.1 < lim then (-1) else (gs (ix v0)).2.2.2.2.2.2.2.1)) (mS m0 r) f (fun f' => MW Γ f' m0 r 0 ((if (gs (ix v0)).2.2.2.2.2.2.1 < lim then K else (mixE (unpK K (ix v0)) K kp))) kp ck msh msm mso np ((if (gs (ix v0)).2.2.2.2.2.2.1 < lim then mon else (upd mon (gs (ix v0)).1 (mon (gs (ix v0)).1 + (gs (ix v0)).2.2.2.2.2.2.2.1)))) ng ((if (gs (ix v0)).2.2.2.2.2.2.1 < lim then gs else (setG gs (ix v0) ((gs (ix v0)).1, (gs (ix v0)).2.1, (gs (ix v0)).2.2.1, (gs (ix v0)).2.2.2.1, (gs (ix v0)).2.2.2.2.1, (gs (ix v0)).2.2.2.2.2.1, (gs (ix v0)).2.2.2.2.2.2.1, (gs (ix v0)).2.2.2.2.2.2.2.1, true)))) nt ts lim ((if (gs (ix v0)).2.2.2.2.2.2.1 < lim then rf else (rf + (gs (ix v0)).2.2.2.2.2.2.2.1.toInt64))) sp rr) (fun f' => MW Γ f' m0 r ((if inB v0 (nI ng) then (if (!(gs (ix v0)).2.2.2.2.2.2.2.2) then 0 else 2) else 1)) K kp ck msh msm mso np mon ng gs nt ts lim rf sp rr)) := by
  refine Ct_of (by decide +kernel) (Nat.le_of_ble_eq_true rfl) ?_
  intro p e s m args below meth c hx hb hr hml hown hin hlocks hts hH hO hK ls hl
  have hl : lv_has ls 3 [(0, .ref m0), (1, .int v0)] := hl
  have hS : va_S (gA Γ) s.heap s.heap [] := va_S.rf
  obtain ⟨⟨dz, gd, hih, mih, fh, hm0⟩, hR⟩ := id hM
  obtain ⟨⟨hk0, hk1, hk2, hk3, hk4, hk5, hk6⟩, ⟨pb, pz, pd, pn, pe, ph, pg, hp0, hp1, hp2, hp3, hp4, hp5, hp6⟩, h0, ⟨hg1, hg2, hg3, hg4, hg5, hg6, hg7, hg8, hg9⟩, ht10, ht11, ht12, ht13⟩ := id hR
  refine lv_aload_n hx hb dX8_judge_0 rfl (lv_at hl 0 rfl) ?_
  refine lv_iload_n hx hb dX8_judge_1 rfl (lv_at hl 1 rfl) ?_
  refine hm_callV (rest := []) (k := 2) q5_146 q5_148 q1_9 q5_149 q0_19 rfl nm_X8_noGame rfl hx hb hml hown hts hK hO hS hH hl.1 hm0 (c_X8_noGame Γ l m0 r th (nI np) (nI ng) (nI nt) (nI kp) (nI rr) ck lim dz gd hih mih fh msh msm mso sp rf v0 f hm0) ⟨Nat.le_of_ble_eq_true rfl, Nat.le_of_ble_eq_true rfl⟩ ⟨Nat.le_of_ble_eq_true rfl, Nat.le_of_ble_eq_true rfl⟩ rfl (Nat.le_of_ble_eq_true rfl) dX8_judge_2 (fun v_ fn1 H locs hp_ hH hS => ?_)
  obtain ⟨rfl, efn1⟩ := hp_
  rcases bTF (inB v0 (nI ng)) with hb1 | hb1
  · rw [hb1] at efn1
    refine W.eq (g2 := F0 m 5 ls [.int 0]) (by rw [hb1]; rfl) ?_
    have hm1_ : fn1 m0 = some (eM r 0 (nI np) (nI ng) (nI nt) (nI kp) (nI rr) ck lim dz gd hih mih fh msh msm mso sp rf) := by rw [efn1]; exact hm_us
    have h2 : fn1 ((r 0)) = some (eI Γ 4 mon) := by rw [efn1]; exact (hm_un (hm_ne h0 hm0 (fun q => by cases q))).trans h0
    have h3 : fn1 ((r 1)) = some (eJ Γ 8 (fun i => b4 (gs i).2.1)) := by rw [efn1]; exact (hm_un (hm_ne hg1 hm0 (fun q => by cases q))).trans hg1
    have h4 : fn1 ((r 2)) = some (eI Γ 8 (fun i => nI (gs i).2.2.1)) := by rw [efn1]; exact (hm_un (hm_ne hg2 hm0 (fun q => by cases q))).trans hg2
    have h5 : fn1 ((r 3)) = some (eI Γ 8 (fun i => nI (gs i).1)) := by rw [efn1]; exact (hm_un (hm_ne hg3 hm0 (fun q => by cases q))).trans hg3
    have h6 : fn1 ((r 4)) = some (eI Γ 8 (fun i => (gs i).2.2.2.1)) := by rw [efn1]; exact (hm_un (hm_ne hg4 hm0 (fun q => by cases q))).trans hg4
    have h7 : fn1 ((r 5)) = some (eI Γ 8 (fun i => (gs i).2.2.2.2.1)) := by rw [efn1]; exact (hm_un (hm_ne hg5 hm0 (fun q => by cases q))).trans hg5
    have h8 : fn1 ((r 6)) = some (eI Γ 8 (fun i => (gs i).2.2.2.2.2.1)) := by rw [efn1]; exact (hm_un (hm_ne hg6 hm0 (fun q => by cases q))).trans hg6
    have h9 : fn1 ((r 7)) = some (eI Γ 8 (fun i => (gs i).2.2.2.2.2.2.1)) := by rw [efn1]; exact (hm_un (hm_ne hg7 hm0 (fun q => by cases q))).trans hg7
    have h10 : fn1 ((r 8)) = some (eI Γ 8 (fun i => (gs i).2.2.2.2.2.2.2.1)) := by rw [efn1]; exact (hm_un (hm_ne hg8 hm0 (fun q => by cases q))).trans hg8
    have h11 : fn1 ((r 9)) = some (eZ Γ 8 (fun i => bI (gs i).2.2.2.2.2.2.2.2)) := by rw [efn1]; exact (hm_un (hm_ne hg9 hm0 (fun q => by cases q))).trans hg9
    have h12 : fn1 ((r 10)) = some (eJ Γ 60 (fun i => b4 (ts i).2.1)) := by rw [efn1]; exact (hm_un (hm_ne ht10 hm0 (fun q => by cases q))).trans ht10
    have h13 : fn1 ((r 11)) = some (eI Γ 60 (fun i => nI (ts i).2.2.1)) := by rw [efn1]; exact (hm_un (hm_ne ht11 hm0 (fun q => by cases q))).trans ht11
    have h14 : fn1 ((r 12)) = some (eI Γ 60 (fun i => nI (ts i).1)) := by rw [efn1]; exact (hm_un (hm_ne ht12 hm0 (fun q => by cases q))).trans ht12
    have h15 : fn1 ((r 13)) = some (eI Γ 60 (fun i => (ts i).2.2.2)) := by rw [efn1]; exact (hm_un (hm_ne ht13 hm0 (fun q => by cases q))).trans ht13
    have h16 : fn1 ((r 14)) = some (eJ Γ 64 (fun j => (K j).1)) := by rw [efn1]; exact (hm_un (hm_ne hk0 hm0 (fun q => by cases q))).trans hk0
    have h17 : fn1 ((r 15)) = some (eI Γ 64 (fun j => (K j).2.1)) := by rw [efn1]; exact (hm_un (hm_ne hk1 hm0 (fun q => by cases q))).trans hk1
    have h18 : fn1 ((r 16)) = some (eI Γ 64 (fun j => (K j).2.2.1)) := by rw [efn1]; exact (hm_un (hm_ne hk2 hm0 (fun q => by cases q))).trans hk2
    have h19 : fn1 ((r 17)) = some (eI Γ 64 (fun j => (K j).2.2.2.1)) := by rw [efn1]; exact (hm_un (hm_ne hk3 hm0 (fun q => by cases q))).trans hk3
    have h20 : fn1 ((r 18)) = some (eI Γ 64 (fun j => (K j).2.2.2.2.1)) := by rw [efn1]; exact (hm_un (hm_ne hk4 hm0 (fun q => by cases q))).trans hk4
    have h21 : fn1 ((r 19)) = some (eI Γ 64 (fun j => (K j).2.2.2.2.2.1)) := by rw [efn1]; exact (hm_un (hm_ne hk5 hm0 (fun q => by cases q))).trans hk5
    have h22 : fn1 ((r 20)) = some (eI Γ 64 (fun j => (K j).2.2.2.2.2.2)) := by rw [efn1]; exact (hm_un (hm_ne hk6 hm0 (fun q => by cases q))).trans hk6
    have h23 : fn1 ((r 21)) = some (eJ Γ 6 pb) := by rw [efn1]; exact (hm_un (hm_ne hp0 hm0 (fun q => by cases q))).trans hp0
    have h24 : fn1 ((r 22)) = some (eI Γ 6 pz) := by rw [efn1]; exact (hm_un (hm_ne hp1 hm0 (fun q => by cases q))).trans hp1
    have h25 : fn1 ((r 23)) = some (eI Γ 6 pd) := by rw [efn1]; exact (hm_un (hm_ne hp2 hm0 (fun q => by cases q))).trans hp2
    have h26 : fn1 ((r 24)) = some (eI Γ 6 pn) := by rw [efn1]; exact (hm_un (hm_ne hp3 hm0 (fun q => by cases q))).trans hp3
    have h27 : fn1 ((r 25)) = some (eI Γ 6 pe) := by rw [efn1]; exact (hm_un (hm_ne hp4 hm0 (fun q => by cases q))).trans hp4
    have h28 : fn1 ((r 26)) = some (eI Γ 6 ph) := by rw [efn1]; exact (hm_un (hm_ne hp5 hm0 (fun q => by cases q))).trans hp5
    have h29 : fn1 ((r 27)) = some (eI Γ 6 pg) := by rw [efn1]; exact (hm_un (hm_ne hp6 hm0 (fun q => by cases q))).trans hp6
    obtain ⟨i, hi, rfl⟩ := (inB_iff (by omega)).mp hb1
    obtain ⟨hgo, hgw, hgz⟩ := hgs i hi
    have hi8 : i < 8 := by omega
    have hix : ix (nI i) = i := ix_nI (by omega)
    have ht15 : tl 15 (gs i).2.1 := tl_mono (tl12 (by omega)) (by decide)
    refine lv_if_ne (tgt := 30) hx hb dX8_judge_5 (by decide) (fun c58 => absurd (by decide) c58) (fun _ => ?_)
    refine lv_aload_n hx hb dX8_judge_8 rfl (lv_at hl 0 rfl) ?_
    refine lv_aload_n hx hb dX8_judge_9 rfl (lv_at hl 0 rfl) ?_
    refine gf_X8_38 hx hb hts hown hK hH hm1_ rfl dX8_judge_10 ?_
    refine lv_iload_n hx hb dX8_judge_13 rfl (lv_at hl 1 rfl) ?_
    refine hm_zald hx hb hK hH h11 (vp_in_nI hi8 (by decide)) dX8_judge_14 ?_
    refine lv_topi (fun v59 ev59 => ?_)
    replace ev59 : v59 = bI (gs i).2.2.2.2.2.2.2.2 := ev59.trans (by show bI (gs (nI i).toNatClampNeg).2.2.2.2.2.2.2.2 = _; rw [nI_clamp (n := i) (by omega)])
    subst ev59
    refine lv_if_ne (tgt := 22) hx hb dX8_judge_15 (by decide) (fun c60 => ?_) (fun c60 => ?_)
    · refine lv_iconst (v := 0) hx hb dX8_judge_22 (by decide) ?_
      refine lv_iconst (v := 2) hx hb dX8_judge_23 (by decide) ?_
      have hb61 : (!(gs i).2.2.2.2.2.2.2.2) = false := (by rw [bI_n.mp c60]; rfl)
      refine W.eq (g2 := F0 m 24 ls [.int 2, .int (bI (!(gs i).2.2.2.2.2.2.2.2)), .ref m0]) (by rw [hb61]; rfl) ?_
      refine hm_callV (rest := []) (k := 1) q5_119 q5_121 q1_9 q5_122 q0_17 rfl nm_X8_no rfl hx hb hml hown hts hK hO hS hH hl.1 hm1_ (c_X8_no Γ l m0 r 0 (nI np) (nI ng) (nI nt) (nI kp) (nI rr) ck lim dz gd hih mih fh msh msm mso sp rf (!(gs i).2.2.2.2.2.2.2.2) 2 fn1 hm1_) ⟨Nat.le_of_ble_eq_true rfl, Nat.le_of_ble_eq_true rfl⟩ ⟨Nat.le_of_ble_eq_true rfl, Nat.le_of_ble_eq_true rfl⟩ rfl (Nat.le_of_ble_eq_true rfl) dX8_judge_24 (fun v_ fn62 H locs hp_ hH hS => ?_)
      obtain ⟨rfl, efn62⟩ := hp_
      rw [hb61] at efn62
      refine W.eq (g2 := F0 m 27 ls [.int 1]) (by rw [hb61]; rfl) ?_
      have hm63 : fn62 m0 = some (eM r 2 (nI np) (nI ng) (nI nt) (nI kp) (nI rr) ck lim dz gd hih mih fh msh msm mso sp rf) := by rw [efn62]; exact hm_us
      have h64 : fn62 ((r 0)) = some (eI Γ 4 mon) := by rw [efn62]; exact (hm_un (hm_ne h2 hm1_ (fun q => by cases q))).trans h2
      have h65 : fn62 ((r 1)) = some (eJ Γ 8 (fun i => b4 (gs i).2.1)) := by rw [efn62]; exact (hm_un (hm_ne h3 hm1_ (fun q => by cases q))).trans h3
      have h66 : fn62 ((r 2)) = some (eI Γ 8 (fun i => nI (gs i).2.2.1)) := by rw [efn62]; exact (hm_un (hm_ne h4 hm1_ (fun q => by cases q))).trans h4
      have h67 : fn62 ((r 3)) = some (eI Γ 8 (fun i => nI (gs i).1)) := by rw [efn62]; exact (hm_un (hm_ne h5 hm1_ (fun q => by cases q))).trans h5
      have h68 : fn62 ((r 4)) = some (eI Γ 8 (fun i => (gs i).2.2.2.1)) := by rw [efn62]; exact (hm_un (hm_ne h6 hm1_ (fun q => by cases q))).trans h6
      have h69 : fn62 ((r 5)) = some (eI Γ 8 (fun i => (gs i).2.2.2.2.1)) := by rw [efn62]; exact (hm_un (hm_ne h7 hm1_ (fun q => by cases q))).trans h7
      have h70 : fn62 ((r 6)) = some (eI Γ 8 (fun i => (gs i).2.2.2.2.2.1)) := by rw [efn62]; exact (hm_un (hm_ne h8 hm1_ (fun q => by cases q))).trans h8
      have h71 : fn62 ((r 7)) = some (eI Γ 8 (fun i => (gs i).2.2.2.2.2.2.1)) := by rw [efn62]; exact (hm_un (hm_ne h9 hm1_ (fun q => by cases q))).trans h9
      have h72 : fn62 ((r 8)) = some (eI Γ 8 (fun i => (gs i).2.2.2.2.2.2.2.1)) := by rw [efn62]; exact (hm_un (hm_ne h10 hm1_ (fun q => by cases q))).trans h10
      have h73 : fn62 ((r 9)) = some (eZ Γ 8 (fun i => bI (gs i).2.2.2.2.2.2.2.2)) := by rw [efn62]; exact (hm_un (hm_ne h11 hm1_ (fun q => by cases q))).trans h11
      have h74 : fn62 ((r 10)) = some (eJ Γ 60 (fun i => b4 (ts i).2.1)) := by rw [efn62]; exact (hm_un (hm_ne h12 hm1_ (fun q => by cases q))).trans h12
      have h75 : fn62 ((r 11)) = some (eI Γ 60 (fun i => nI (ts i).2.2.1)) := by rw [efn62]; exact (hm_un (hm_ne h13 hm1_ (fun q => by cases q))).trans h13
      have h76 : fn62 ((r 12)) = some (eI Γ 60 (fun i => nI (ts i).1)) := by rw [efn62]; exact (hm_un (hm_ne h14 hm1_ (fun q => by cases q))).trans h14
      have h77 : fn62 ((r 13)) = some (eI Γ 60 (fun i => (ts i).2.2.2)) := by rw [efn62]; exact (hm_un (hm_ne h15 hm1_ (fun q => by cases q))).trans h15
      have h78 : fn62 ((r 14)) = some (eJ Γ 64 (fun j => (K j).1)) := by rw [efn62]; exact (hm_un (hm_ne h16 hm1_ (fun q => by cases q))).trans h16
      have h79 : fn62 ((r 15)) = some (eI Γ 64 (fun j => (K j).2.1)) := by rw [efn62]; exact (hm_un (hm_ne h17 hm1_ (fun q => by cases q))).trans h17
      have h80 : fn62 ((r 16)) = some (eI Γ 64 (fun j => (K j).2.2.1)) := by rw [efn62]; exact (hm_un (hm_ne h18 hm1_ (fun q => by cases q))).trans h18
      have h81 : fn62 ((r 17)) = some (eI Γ 64 (fun j => (K j).2.2.2.1)) := by rw [efn62]; exact (hm_un (hm_ne h19 hm1_ (fun q => by cases q))).trans h19
      have h82 : fn62 ((r 18)) = some (eI Γ 64 (fun j => (K j).2.2.2.2.1)) := by rw [efn62]; exact (hm_un (hm_ne h20 hm1_ (fun q => by cases q))).trans h20
      have h83 : fn62 ((r 19)) = some (eI Γ 64 (fun j => (K j).2.2.2.2.2.1)) := by rw [efn62]; exact (hm_un (hm_ne h21 hm1_ (fun q => by cases q))).trans h21
      have h84 : fn62 ((r 20)) = some (eI Γ 64 (fun j => (K j).2.2.2.2.2.2)) := by rw [efn62]; exact (hm_un (hm_ne h22 hm1_ (fun q => by cases q))).trans h22
      have h85 : fn62 ((r 21)) = some (eJ Γ 6 pb) := by rw [efn62]; exact (hm_un (hm_ne h23 hm1_ (fun q => by cases q))).trans h23
      have h86 : fn62 ((r 22)) = some (eI Γ 6 pz) := by rw [efn62]; exact (hm_un (hm_ne h24 hm1_ (fun q => by cases q))).trans h24
      have h87 : fn62 ((r 23)) = some (eI Γ 6 pd) := by rw [efn62]; exact (hm_un (hm_ne h25 hm1_ (fun q => by cases q))).trans h25
      have h88 : fn62 ((r 24)) = some (eI Γ 6 pn) := by rw [efn62]; exact (hm_un (hm_ne h26 hm1_ (fun q => by cases q))).trans h26
      have h89 : fn62 ((r 25)) = some (eI Γ 6 pe) := by rw [efn62]; exact (hm_un (hm_ne h27 hm1_ (fun q => by cases q))).trans h27
      have h90 : fn62 ((r 26)) = some (eI Γ 6 ph) := by rw [efn62]; exact (hm_un (hm_ne h28 hm1_ (fun q => by cases q))).trans h28
      have h91 : fn62 ((r 27)) = some (eI Γ 6 pg) := by rw [efn62]; exact (hm_un (hm_ne h29 hm1_ (fun q => by cases q))).trans h29
      refine lv_if_eq (tgt := 32) hx hb dX8_judge_27 (by decide) (fun c92 => absurd c92 (by decide)) (fun _ => ?_)
      refine lv_iconst (v := 0) hx hb dX8_judge_30 (by decide) ?_
      have hfr9 : hm_fr (mS m0 r) f fn62 := by
        rw [efn62, efn1]
        exact ((hm_fr.rf (S := mS m0 r)).up mS_0).up mS_0
      exact hm_iret hx hb hr hlocks hS hH (⟨Or.inr ⟨by rw [hb1]; (try rw [hix]); rw [hb61]; exact (show (2 : Int32) ≠ 0 by decide), ⟨_, rfl⟩, by rw [hb1]; (try rw [hix]); rw [hb61]; exact MW.mk hm63 ⟨⟨h78, h79, h80, h81, h82, h83, h84⟩, ⟨_, _, _, _, _, _, _, h85, h86, h87, h88, h89, h90, h91⟩, h64, ⟨h65, h66, h67, h68, h69, h70, h71, h72, h73⟩, h74, h75, h76, h77⟩⟩, hfr9.k⟩) (Nat.le_of_ble_eq_true rfl) (Nat.le_of_ble_eq_true rfl) dX8_judge_31
    · refine lv_iconst (v := 1) hx hb dX8_judge_18 (by decide) ?_
      refine lv_goto (tgt := 23) hx hb dX8_judge_19 (by decide) ?_
      refine lv_iconst (v := 2) hx hb dX8_judge_23 (by decide) ?_
      have hb93 : (!(gs i).2.2.2.2.2.2.2.2) = true := (by rw [bI_0.mp c60]; rfl)
      refine W.eq (g2 := F0 m 24 ls [.int 2, .int (bI (!(gs i).2.2.2.2.2.2.2.2)), .ref m0]) (by rw [hb93]; rfl) ?_
      refine hm_callV (rest := []) (k := 1) q5_119 q5_121 q1_9 q5_122 q0_17 rfl nm_X8_no rfl hx hb hml hown hts hK hO hS hH hl.1 hm1_ (c_X8_no Γ l m0 r 0 (nI np) (nI ng) (nI nt) (nI kp) (nI rr) ck lim dz gd hih mih fh msh msm mso sp rf (!(gs i).2.2.2.2.2.2.2.2) 2 fn1 hm1_) ⟨Nat.le_of_ble_eq_true rfl, Nat.le_of_ble_eq_true rfl⟩ ⟨Nat.le_of_ble_eq_true rfl, Nat.le_of_ble_eq_true rfl⟩ rfl (Nat.le_of_ble_eq_true rfl) dX8_judge_24 (fun v_ fn94 H locs hp_ hH hS => ?_)
      obtain ⟨rfl, efn94⟩ := hp_
      rw [hb93] at efn94
      refine W.eq (g2 := F0 m 27 ls [.int 0]) (by rw [hb93]; rfl) ?_
      have hm95 : fn94 m0 = some (eM r 0 (nI np) (nI ng) (nI nt) (nI kp) (nI rr) ck lim dz gd hih mih fh msh msm mso sp rf) := by rw [efn94]; exact hm_us
      have h96 : fn94 ((r 0)) = some (eI Γ 4 mon) := by rw [efn94]; exact (hm_un (hm_ne h2 hm1_ (fun q => by cases q))).trans h2
      have h97 : fn94 ((r 1)) = some (eJ Γ 8 (fun i => b4 (gs i).2.1)) := by rw [efn94]; exact (hm_un (hm_ne h3 hm1_ (fun q => by cases q))).trans h3
      have h98 : fn94 ((r 2)) = some (eI Γ 8 (fun i => nI (gs i).2.2.1)) := by rw [efn94]; exact (hm_un (hm_ne h4 hm1_ (fun q => by cases q))).trans h4
      have h99 : fn94 ((r 3)) = some (eI Γ 8 (fun i => nI (gs i).1)) := by rw [efn94]; exact (hm_un (hm_ne h5 hm1_ (fun q => by cases q))).trans h5
      have h100 : fn94 ((r 4)) = some (eI Γ 8 (fun i => (gs i).2.2.2.1)) := by rw [efn94]; exact (hm_un (hm_ne h6 hm1_ (fun q => by cases q))).trans h6
      have h101 : fn94 ((r 5)) = some (eI Γ 8 (fun i => (gs i).2.2.2.2.1)) := by rw [efn94]; exact (hm_un (hm_ne h7 hm1_ (fun q => by cases q))).trans h7
      have h102 : fn94 ((r 6)) = some (eI Γ 8 (fun i => (gs i).2.2.2.2.2.1)) := by rw [efn94]; exact (hm_un (hm_ne h8 hm1_ (fun q => by cases q))).trans h8
      have h103 : fn94 ((r 7)) = some (eI Γ 8 (fun i => (gs i).2.2.2.2.2.2.1)) := by rw [efn94]; exact (hm_un (hm_ne h9 hm1_ (fun q => by cases q))).trans h9
      have h104 : fn94 ((r 8)) = some (eI Γ 8 (fun i => (gs i).2.2.2.2.2.2.2.1)) := by rw [efn94]; exact (hm_un (hm_ne h10 hm1_ (fun q => by cases q))).trans h10
      have h105 : fn94 ((r 9)) = some (eZ Γ 8 (fun i => bI (gs i).2.2.2.2.2.2.2.2)) := by rw [efn94]; exact (hm_un (hm_ne h11 hm1_ (fun q => by cases q))).trans h11
      have h106 : fn94 ((r 10)) = some (eJ Γ 60 (fun i => b4 (ts i).2.1)) := by rw [efn94]; exact (hm_un (hm_ne h12 hm1_ (fun q => by cases q))).trans h12
      have h107 : fn94 ((r 11)) = some (eI Γ 60 (fun i => nI (ts i).2.2.1)) := by rw [efn94]; exact (hm_un (hm_ne h13 hm1_ (fun q => by cases q))).trans h13
      have h108 : fn94 ((r 12)) = some (eI Γ 60 (fun i => nI (ts i).1)) := by rw [efn94]; exact (hm_un (hm_ne h14 hm1_ (fun q => by cases q))).trans h14
      have h109 : fn94 ((r 13)) = some (eI Γ 60 (fun i => (ts i).2.2.2)) := by rw [efn94]; exact (hm_un (hm_ne h15 hm1_ (fun q => by cases q))).trans h15
      have h110 : fn94 ((r 14)) = some (eJ Γ 64 (fun j => (K j).1)) := by rw [efn94]; exact (hm_un (hm_ne h16 hm1_ (fun q => by cases q))).trans h16
      have h111 : fn94 ((r 15)) = some (eI Γ 64 (fun j => (K j).2.1)) := by rw [efn94]; exact (hm_un (hm_ne h17 hm1_ (fun q => by cases q))).trans h17
      have h112 : fn94 ((r 16)) = some (eI Γ 64 (fun j => (K j).2.2.1)) := by rw [efn94]; exact (hm_un (hm_ne h18 hm1_ (fun q => by cases q))).trans h18
      have h113 : fn94 ((r 17)) = some (eI Γ 64 (fun j => (K j).2.2.2.1)) := by rw [efn94]; exact (hm_un (hm_ne h19 hm1_ (fun q => by cases q))).trans h19
      have h114 : fn94 ((r 18)) = some (eI Γ 64 (fun j => (K j).2.2.2.2.1)) := by rw [efn94]; exact (hm_un (hm_ne h20 hm1_ (fun q => by cases q))).trans h20
      have h115 : fn94 ((r 19)) = some (eI Γ 64 (fun j => (K j).2.2.2.2.2.1)) := by rw [efn94]; exact (hm_un (hm_ne h21 hm1_ (fun q => by cases q))).trans h21
      have h116 : fn94 ((r 20)) = some (eI Γ 64 (fun j => (K j).2.2.2.2.2.2)) := by rw [efn94]; exact (hm_un (hm_ne h22 hm1_ (fun q => by cases q))).trans h22
      have h117 : fn94 ((r 21)) = some (eJ Γ 6 pb) := by rw [efn94]; exact (hm_un (hm_ne h23 hm1_ (fun q => by cases q))).trans h23
      have h118 : fn94 ((r 22)) = some (eI Γ 6 pz) := by rw [efn94]; exact (hm_un (hm_ne h24 hm1_ (fun q => by cases q))).trans h24
      have h119 : fn94 ((r 23)) = some (eI Γ 6 pd) := by rw [efn94]; exact (hm_un (hm_ne h25 hm1_ (fun q => by cases q))).trans h25
      have h120 : fn94 ((r 24)) = some (eI Γ 6 pn) := by rw [efn94]; exact (hm_un (hm_ne h26 hm1_ (fun q => by cases q))).trans h26
      have h121 : fn94 ((r 25)) = some (eI Γ 6 pe) := by rw [efn94]; exact (hm_un (hm_ne h27 hm1_ (fun q => by cases q))).trans h27
      have h122 : fn94 ((r 26)) = some (eI Γ 6 ph) := by rw [efn94]; exact (hm_un (hm_ne h28 hm1_ (fun q => by cases q))).trans h28
      have h123 : fn94 ((r 27)) = some (eI Γ 6 pg) := by rw [efn94]; exact (hm_un (hm_ne h29 hm1_ (fun q => by cases q))).trans h29
      refine lv_if_eq (tgt := 32) hx hb dX8_judge_27 (by decide) (fun _ => ?_) (fun c124 => absurd (by decide) c124)
      refine lv_aload_n hx hb dX8_judge_32 rfl (lv_at hl 0 rfl) ?_
      refine gf_X8_32 hx hb hts hown hK hH hm95 rfl dX8_judge_33 ?_
      refine lv_iload_n hx hb dX8_judge_36 rfl (lv_at hl 1 rfl) ?_
      refine hm_iald hx hb hK hH h103 (vp_in_nI hi8 (by decide)) dX8_judge_37 ?_
      refine lv_topi (fun v125 ev125 => ?_)
      replace ev125 : v125 = (gs i).2.2.2.2.2.2.1 := ev125.trans (by show (gs (nI i).toNatClampNeg).2.2.2.2.2.2.1 = _; rw [nI_clamp (n := i) (by omega)])
      subst ev125
      refine lv_aload_n hx hb dX8_judge_38 rfl (lv_at hl 0 rfl) ?_
      refine gf_X8_100 hx hb hts hown hK hH hm95 rfl dX8_judge_39 ?_
      refine lv_icmp_ge (tgt := 47) hx hb dX8_judge_42 (by decide) (fun c126 => ?_) (fun c126 => ?_)
      · have hlt : ¬ (gs i).2.2.2.2.2.2.1 < lim := Int32.not_lt.mpr c126
        refine lv_aload_n hx hb dX8_judge_47 rfl (lv_at hl 0 rfl) ?_
        refine gf_X8_38 hx hb hts hown hK hH hm95 rfl dX8_judge_48 ?_
        refine lv_iload_n hx hb dX8_judge_51 rfl (lv_at hl 1 rfl) ?_
        refine lv_iconst (v := 1) hx hb dX8_judge_52 (by decide) ?_
        refine hm_zast hx hb hK hO hS hH h105 (vp_in_nI hi8 (by decide)) dX8_judge_53 (fun H locs hH hS => ?_)
        rw [nI_clamp (n := i) (by omega)] at hH
        obtain ⟨f127, ef127⟩ : ∃ zz_, zz_ = hm_up fn94 ((r 9)) (eZ Γ 8 (upd (fun i => bI (gs i).2.2.2.2.2.2.2.2) i (vp_nar .boolean 1))) := ⟨_, rfl⟩
        have hH : hm_H Γ f127 H := by rw [ef127]; exact hH
        have h128 : f127 ((r 9)) = some (eZ Γ 8 (upd (fun i => bI (gs i).2.2.2.2.2.2.2.2) i (vp_nar .boolean 1))) := by rw [ef127]; exact hm_us
        have h129 : f127 m0 = some (eM r 0 (nI np) (nI ng) (nI nt) (nI kp) (nI rr) ck lim dz gd hih mih fh msh msm mso sp rf) := by rw [ef127]; exact (hm_un (hm_ne hm95 h105 (fun q => by cases q))).trans hm95
        have h130 : f127 ((r 0)) = some (eI Γ 4 mon) := by rw [ef127]; exact (hm_un (hrI 0 9 (by decide) (by decide) (by decide))).trans h96
        have h131 : f127 ((r 1)) = some (eJ Γ 8 (fun i => b4 (gs i).2.1)) := by rw [ef127]; exact (hm_un (hrI 1 9 (by decide) (by decide) (by decide))).trans h97
        have h132 : f127 ((r 2)) = some (eI Γ 8 (fun i => nI (gs i).2.2.1)) := by rw [ef127]; exact (hm_un (hrI 2 9 (by decide) (by decide) (by decide))).trans h98
        have h133 : f127 ((r 3)) = some (eI Γ 8 (fun i => nI (gs i).1)) := by rw [ef127]; exact (hm_un (hrI 3 9 (by decide) (by decide) (by decide))).trans h99
        have h134 : f127 ((r 4)) = some (eI Γ 8 (fun i => (gs i).2.2.2.1)) := by rw [ef127]; exact (hm_un (hrI 4 9 (by decide) (by decide) (by decide))).trans h100
        have h135 : f127 ((r 5)) = some (eI Γ 8 (fun i => (gs i).2.2.2.2.1)) := by rw [ef127]; exact (hm_un (hrI 5 9 (by decide) (by decide) (by decide))).trans h101
        have h136 : f127 ((r 6)) = some (eI Γ 8 (fun i => (gs i).2.2.2.2.2.1)) := by rw [ef127]; exact (hm_un (hrI 6 9 (by decide) (by decide) (by decide))).trans h102
        have h137 : f127 ((r 7)) = some (eI Γ 8 (fun i => (gs i).2.2.2.2.2.2.1)) := by rw [ef127]; exact (hm_un (hrI 7 9 (by decide) (by decide) (by decide))).trans h103
        have h138 : f127 ((r 8)) = some (eI Γ 8 (fun i => (gs i).2.2.2.2.2.2.2.1)) := by rw [ef127]; exact (hm_un (hrI 8 9 (by decide) (by decide) (by decide))).trans h104
        have h139 : f127 ((r 10)) = some (eJ Γ 60 (fun i => b4 (ts i).2.1)) := by rw [ef127]; exact (hm_un (hrI 10 9 (by decide) (by decide) (by decide))).trans h106
        have h140 : f127 ((r 11)) = some (eI Γ 60 (fun i => nI (ts i).2.2.1)) := by rw [ef127]; exact (hm_un (hrI 11 9 (by decide) (by decide) (by decide))).trans h107
        have h141 : f127 ((r 12)) = some (eI Γ 60 (fun i => nI (ts i).1)) := by rw [ef127]; exact (hm_un (hrI 12 9 (by decide) (by decide) (by decide))).trans h108
        have h142 : f127 ((r 13)) = some (eI Γ 60 (fun i => (ts i).2.2.2)) := by rw [ef127]; exact (hm_un (hrI 13 9 (by decide) (by decide) (by decide))).trans h109
        have h143 : f127 ((r 14)) = some (eJ Γ 64 (fun j => (K j).1)) := by rw [ef127]; exact (hm_un (hrI 14 9 (by decide) (by decide) (by decide))).trans h110
        have h144 : f127 ((r 15)) = some (eI Γ 64 (fun j => (K j).2.1)) := by rw [ef127]; exact (hm_un (hrI 15 9 (by decide) (by decide) (by decide))).trans h111
        have h145 : f127 ((r 16)) = some (eI Γ 64 (fun j => (K j).2.2.1)) := by rw [ef127]; exact (hm_un (hrI 16 9 (by decide) (by decide) (by decide))).trans h112
        have h146 : f127 ((r 17)) = some (eI Γ 64 (fun j => (K j).2.2.2.1)) := by rw [ef127]; exact (hm_un (hrI 17 9 (by decide) (by decide) (by decide))).trans h113
        have h147 : f127 ((r 18)) = some (eI Γ 64 (fun j => (K j).2.2.2.2.1)) := by rw [ef127]; exact (hm_un (hrI 18 9 (by decide) (by decide) (by decide))).trans h114
        have h148 : f127 ((r 19)) = some (eI Γ 64 (fun j => (K j).2.2.2.2.2.1)) := by rw [ef127]; exact (hm_un (hrI 19 9 (by decide) (by decide) (by decide))).trans h115
        have h149 : f127 ((r 20)) = some (eI Γ 64 (fun j => (K j).2.2.2.2.2.2)) := by rw [ef127]; exact (hm_un (hrI 20 9 (by decide) (by decide) (by decide))).trans h116
        have h150 : f127 ((r 21)) = some (eJ Γ 6 pb) := by rw [ef127]; exact (hm_un (hrI 21 9 (by decide) (by decide) (by decide))).trans h117
        have h151 : f127 ((r 22)) = some (eI Γ 6 pz) := by rw [ef127]; exact (hm_un (hrI 22 9 (by decide) (by decide) (by decide))).trans h118
        have h152 : f127 ((r 23)) = some (eI Γ 6 pd) := by rw [ef127]; exact (hm_un (hrI 23 9 (by decide) (by decide) (by decide))).trans h119
        have h153 : f127 ((r 24)) = some (eI Γ 6 pn) := by rw [ef127]; exact (hm_un (hrI 24 9 (by decide) (by decide) (by decide))).trans h120
        have h154 : f127 ((r 25)) = some (eI Γ 6 pe) := by rw [ef127]; exact (hm_un (hrI 25 9 (by decide) (by decide) (by decide))).trans h121
        have h155 : f127 ((r 26)) = some (eI Γ 6 ph) := by rw [ef127]; exact (hm_un (hrI 26 9 (by decide) (by decide) (by decide))).trans h122
        have h156 : f127 ((r 27)) = some (eI Γ 6 pg) := by rw [ef127]; exact (hm_un (hrI 27 9 (by decide) (by decide) (by decide))).trans h123
        refine lv_aload_n hx hb dX8_judge_54 rfl (lv_at hl 0 rfl) ?_
        refine lv_iload_n hx hb dX8_judge_55 rfl (lv_at hl 1 rfl) ?_
        refine hm_callV (rest := []) (k := 2) q6_37 q6_39 q1_9 q6_40 q0_34 rfl nm_X8_unpins rfl hx hb hml hown hts hK hO hS hH hl.1 h129 (c_X8_unpins Γ l m0 r 0 (nI np) (nI ng) (nI nt) (nI rr) ck lim dz gd hih mih fh msh msm mso sp rf kp K i f127 h129 ⟨h143, h144, h145, h146, h147, h148, h149⟩ (by omega) hi8 hrI) ⟨Nat.le_of_ble_eq_true rfl, Nat.le_of_ble_eq_true rfl⟩ ⟨Nat.le_of_ble_eq_true rfl, Nat.le_of_ble_eq_true rfl⟩ rfl (Nat.le_of_ble_eq_true rfl) dX8_judge_56 (fun v_ fu157 H locs hp_ hH hS => ?_)
        obtain ⟨rfl, ⟨hu0, hu1, hu2, hu3, hu4, hu5, hu6⟩, hfru⟩ := hp_
        refine W.eq (g2 := F0 m 59 ls [.int (nI (cntP (fun j => bt (K j).2.2.2.2.2.2 i) kp))]) rfl ?_
        have hfrw : hm_fr (mS m0 r) f f127 := by
          rw [ef127, efn94, efn1]
          exact (((hm_fr.rf (S := mS m0 r)).up mS_0).up mS_0).up (mS_r (by decide))
        have hfrw2 : hm_fr (mS m0 r) f fu157 := hfrw.tr (hfru.mono (fun q hq => by rw [hq]; exact mS_r (by decide)))
        have h158 : fu157 m0 = some (eM r 0 (nI np) (nI ng) (nI nt) (nI kp) (nI rr) ck lim dz gd hih mih fh msh msm mso sp rf) := (hfru _ (hm_ne h129 h149 (fun q => by cases q))).trans h129
        have h159 : fu157 (r 0) = some (eI Γ 4 mon) := (hfru _ (r_ne20 hrI (by decide) (by decide))).trans h130
        have h160 : fu157 (r 1) = some (eJ Γ 8 (fun i => b4 (gs i).2.1)) := (hfru _ (r_ne20 hrI (by decide) (by decide))).trans h131
        have h161 : fu157 (r 2) = some (eI Γ 8 (fun i => nI (gs i).2.2.1)) := (hfru _ (r_ne20 hrI (by decide) (by decide))).trans h132
        have h162 : fu157 (r 3) = some (eI Γ 8 (fun i => nI (gs i).1)) := (hfru _ (r_ne20 hrI (by decide) (by decide))).trans h133
        have h163 : fu157 (r 4) = some (eI Γ 8 (fun i => (gs i).2.2.2.1)) := (hfru _ (r_ne20 hrI (by decide) (by decide))).trans h134
        have h164 : fu157 (r 5) = some (eI Γ 8 (fun i => (gs i).2.2.2.2.1)) := (hfru _ (r_ne20 hrI (by decide) (by decide))).trans h135
        have h165 : fu157 (r 6) = some (eI Γ 8 (fun i => (gs i).2.2.2.2.2.1)) := (hfru _ (r_ne20 hrI (by decide) (by decide))).trans h136
        have h166 : fu157 (r 7) = some (eI Γ 8 (fun i => (gs i).2.2.2.2.2.2.1)) := (hfru _ (r_ne20 hrI (by decide) (by decide))).trans h137
        have h167 : fu157 (r 8) = some (eI Γ 8 (fun i => (gs i).2.2.2.2.2.2.2.1)) := (hfru _ (r_ne20 hrI (by decide) (by decide))).trans h138
        have h168 : fu157 (r 9) = some (eZ Γ 8 (upd (fun i => bI (gs i).2.2.2.2.2.2.2.2) i (vp_nar .boolean 1))) := (hfru _ (r_ne20 hrI (by decide) (by decide))).trans h128
        have h169 : fu157 (r 10) = some (eJ Γ 60 (fun i => b4 (ts i).2.1)) := (hfru _ (r_ne20 hrI (by decide) (by decide))).trans h139
        have h170 : fu157 (r 11) = some (eI Γ 60 (fun i => nI (ts i).2.2.1)) := (hfru _ (r_ne20 hrI (by decide) (by decide))).trans h140
        have h171 : fu157 (r 12) = some (eI Γ 60 (fun i => nI (ts i).1)) := (hfru _ (r_ne20 hrI (by decide) (by decide))).trans h141
        have h172 : fu157 (r 13) = some (eI Γ 60 (fun i => (ts i).2.2.2)) := (hfru _ (r_ne20 hrI (by decide) (by decide))).trans h142
        have h173 : fu157 (r 21) = some (eJ Γ 6 pb) := (hfru _ (r_ne20 hrI (by decide) (by decide))).trans h150
        have h174 : fu157 (r 22) = some (eI Γ 6 pz) := (hfru _ (r_ne20 hrI (by decide) (by decide))).trans h151
        have h175 : fu157 (r 23) = some (eI Γ 6 pd) := (hfru _ (r_ne20 hrI (by decide) (by decide))).trans h152
        have h176 : fu157 (r 24) = some (eI Γ 6 pn) := (hfru _ (r_ne20 hrI (by decide) (by decide))).trans h153
        have h177 : fu157 (r 25) = some (eI Γ 6 pe) := (hfru _ (r_ne20 hrI (by decide) (by decide))).trans h154
        have h178 : fu157 (r 26) = some (eI Γ 6 ph) := (hfru _ (r_ne20 hrI (by decide) (by decide))).trans h155
        have h179 : fu157 (r 27) = some (eI Γ 6 pg) := (hfru _ (r_ne20 hrI (by decide) (by decide))).trans h156
        refine lv_istore_n (lv' := [(2, .int (nI (cntP (fun j => bt (K j).2.2.2.2.2.2 i) kp))), (0, .ref m0), (1, .int (nI i))]) hx hb dX8_judge_59 rfl hl (by decide) rfl (fun ls hl => ?_)
        refine lv_aload_n hx hb dX8_judge_60 rfl (lv_at hl 1 rfl) ?_
        refine gf_X8_7 hx hb hts hown hK hH h158 rfl dX8_judge_61 ?_
        refine lv_aload_n hx hb dX8_judge_64 rfl (lv_at hl 1 rfl) ?_
        refine gf_X8_20 hx hb hts hown hK hH h158 rfl dX8_judge_65 ?_
        refine lv_iload_n hx hb dX8_judge_68 rfl (lv_at hl 2 rfl) ?_
        refine hm_iald hx hb hK hH h162 (vp_in_nI hi8 (by decide)) dX8_judge_69 ?_
        refine lv_topi (fun v180 ev180 => ?_)
        replace ev180 : v180 = nI (gs i).1 := ev180.trans (by show nI (gs (nI i).toNatClampNeg).1 = _; rw [nI_clamp (n := i) (by omega)])
        subst ev180
        refine lv_dup2_11 hx hb dX8_judge_70 rfl rfl ?_
        refine hm_iald hx hb hK hH h159 (vp_in_nI (show (gs i).1 < 4 by omega) (by decide)) dX8_judge_71 ?_
        refine lv_topi (fun v181 ev181 => ?_)
        replace ev181 : v181 = (mon (gs i).1) := ev181.trans (by show mon (nI (gs i).1).toNatClampNeg = _; rw [nI_clamp (by omega)])
        subst ev181
        refine lv_iload_n hx hb dX8_judge_72 rfl (lv_at hl 0 rfl) ?_
        refine lv_if_ge (tgt := 80) hx hb dX8_judge_73 (by decide) (fun _ => ?_) (fun c182 => absurd ((nI_pos' (by have := cntP_le (P := fun j => bt (K j).2.2.2.2.2.2 i) kp; omega))) c182)
        refine lv_aload_n hx hb dX8_judge_80 rfl (lv_at hl 1 rfl) ?_
        refine gf_X8_35 hx hb hts hown hK hH h158 rfl dX8_judge_81 ?_
        refine lv_iload_n hx hb dX8_judge_84 rfl (lv_at hl 2 rfl) ?_
        refine hm_iald hx hb hK hH h167 (vp_in_nI hi8 (by decide)) dX8_judge_85 ?_
        refine lv_topi (fun v183 ev183 => ?_)
        replace ev183 : v183 = (gs i).2.2.2.2.2.2.2.1 := ev183.trans (by show (gs (nI i).toNatClampNeg).2.2.2.2.2.2.2.1 = _; rw [nI_clamp (n := i) (by omega)])
        subst ev183
        refine lv_iadd hx hb dX8_judge_86 ?_
        refine lv_topi (fun v184 ev184 => ?_)
        replace ev184 : v184 = (mon (gs i).1 + (gs i).2.2.2.2.2.2.2.1) := ev184.trans (rfl)
        subst ev184
        refine hm_iast hx hb hK hO hS hH h159 (vp_in_nI (show (gs i).1 < 4 by omega) (by decide)) dX8_judge_87 (fun H locs hH hS => ?_)
        rw [nI_clamp (n := (gs i).1) (by omega)] at hH
        obtain ⟨f185, ef185⟩ : ∃ zz_, zz_ = hm_up fu157 ((r 0)) (eI Γ 4 (upd mon ((gs i).1) ((mon (gs i).1 + (gs i).2.2.2.2.2.2.2.1)))) := ⟨_, rfl⟩
        have hH : hm_H Γ f185 H := by rw [ef185]; exact hH
        have h186 : f185 ((r 0)) = some (eI Γ 4 (upd mon ((gs i).1) ((mon (gs i).1 + (gs i).2.2.2.2.2.2.2.1)))) := by rw [ef185]; exact hm_us
        have h187 : f185 m0 = some (eM r 0 (nI np) (nI ng) (nI nt) (nI kp) (nI rr) ck lim dz gd hih mih fh msh msm mso sp rf) := by rw [ef185]; exact (hm_un (hm_ne h158 h159 (fun q => by cases q))).trans h158
        have h188 : f185 ((r 1)) = some (eJ Γ 8 (fun i => b4 (gs i).2.1)) := by rw [ef185]; exact (hm_un (hrI 1 0 (by decide) (by decide) (by decide))).trans h160
        have h189 : f185 ((r 2)) = some (eI Γ 8 (fun i => nI (gs i).2.2.1)) := by rw [ef185]; exact (hm_un (hrI 2 0 (by decide) (by decide) (by decide))).trans h161
        have h190 : f185 ((r 3)) = some (eI Γ 8 (fun i => nI (gs i).1)) := by rw [ef185]; exact (hm_un (hrI 3 0 (by decide) (by decide) (by decide))).trans h162
        have h191 : f185 ((r 4)) = some (eI Γ 8 (fun i => (gs i).2.2.2.1)) := by rw [ef185]; exact (hm_un (hrI 4 0 (by decide) (by decide) (by decide))).trans h163
        have h192 : f185 ((r 5)) = some (eI Γ 8 (fun i => (gs i).2.2.2.2.1)) := by rw [ef185]; exact (hm_un (hrI 5 0 (by decide) (by decide) (by decide))).trans h164
        have h193 : f185 ((r 6)) = some (eI Γ 8 (fun i => (gs i).2.2.2.2.2.1)) := by rw [ef185]; exact (hm_un (hrI 6 0 (by decide) (by decide) (by decide))).trans h165
        have h194 : f185 ((r 7)) = some (eI Γ 8 (fun i => (gs i).2.2.2.2.2.2.1)) := by rw [ef185]; exact (hm_un (hrI 7 0 (by decide) (by decide) (by decide))).trans h166
        have h195 : f185 ((r 8)) = some (eI Γ 8 (fun i => (gs i).2.2.2.2.2.2.2.1)) := by rw [ef185]; exact (hm_un (hrI 8 0 (by decide) (by decide) (by decide))).trans h167
        have h196 : f185 ((r 9)) = some (eZ Γ 8 (upd (fun i => bI (gs i).2.2.2.2.2.2.2.2) i (vp_nar .boolean 1))) := by rw [ef185]; exact (hm_un (hrI 9 0 (by decide) (by decide) (by decide))).trans h168
        have h197 : f185 ((r 10)) = some (eJ Γ 60 (fun i => b4 (ts i).2.1)) := by rw [ef185]; exact (hm_un (hrI 10 0 (by decide) (by decide) (by decide))).trans h169
        have h198 : f185 ((r 11)) = some (eI Γ 60 (fun i => nI (ts i).2.2.1)) := by rw [ef185]; exact (hm_un (hrI 11 0 (by decide) (by decide) (by decide))).trans h170
        have h199 : f185 ((r 12)) = some (eI Γ 60 (fun i => nI (ts i).1)) := by rw [ef185]; exact (hm_un (hrI 12 0 (by decide) (by decide) (by decide))).trans h171
        have h200 : f185 ((r 13)) = some (eI Γ 60 (fun i => (ts i).2.2.2)) := by rw [ef185]; exact (hm_un (hrI 13 0 (by decide) (by decide) (by decide))).trans h172
        have h201 : f185 ((r 21)) = some (eJ Γ 6 pb) := by rw [ef185]; exact (hm_un (hrI 21 0 (by decide) (by decide) (by decide))).trans h173
        have h202 : f185 ((r 22)) = some (eI Γ 6 pz) := by rw [ef185]; exact (hm_un (hrI 22 0 (by decide) (by decide) (by decide))).trans h174
        have h203 : f185 ((r 23)) = some (eI Γ 6 pd) := by rw [ef185]; exact (hm_un (hrI 23 0 (by decide) (by decide) (by decide))).trans h175
        have h204 : f185 ((r 24)) = some (eI Γ 6 pn) := by rw [ef185]; exact (hm_un (hrI 24 0 (by decide) (by decide) (by decide))).trans h176
        have h205 : f185 ((r 25)) = some (eI Γ 6 pe) := by rw [ef185]; exact (hm_un (hrI 25 0 (by decide) (by decide) (by decide))).trans h177
        have h206 : f185 ((r 26)) = some (eI Γ 6 ph) := by rw [ef185]; exact (hm_un (hrI 26 0 (by decide) (by decide) (by decide))).trans h178
        have h207 : f185 ((r 27)) = some (eI Γ 6 pg) := by rw [ef185]; exact (hm_un (hrI 27 0 (by decide) (by decide) (by decide))).trans h179
        have h208 : f185 ((r 14)) = some (eJ Γ 64 (fun j => (mixE (unpK K i) K kp j).1)) := by rw [ef185]; exact (hm_un (hrI 14 0 (by decide) (by decide) (by decide))).trans hu0
        have h209 : f185 ((r 15)) = some (eI Γ 64 (fun j => (mixE (unpK K i) K kp j).2.1)) := by rw [ef185]; exact (hm_un (hrI 15 0 (by decide) (by decide) (by decide))).trans hu1
        have h210 : f185 ((r 16)) = some (eI Γ 64 (fun j => (mixE (unpK K i) K kp j).2.2.1)) := by rw [ef185]; exact (hm_un (hrI 16 0 (by decide) (by decide) (by decide))).trans hu2
        have h211 : f185 ((r 17)) = some (eI Γ 64 (fun j => (mixE (unpK K i) K kp j).2.2.2.1)) := by rw [ef185]; exact (hm_un (hrI 17 0 (by decide) (by decide) (by decide))).trans hu3
        have h212 : f185 ((r 18)) = some (eI Γ 64 (fun j => (mixE (unpK K i) K kp j).2.2.2.2.1)) := by rw [ef185]; exact (hm_un (hrI 18 0 (by decide) (by decide) (by decide))).trans hu4
        have h213 : f185 ((r 19)) = some (eI Γ 64 (fun j => (mixE (unpK K i) K kp j).2.2.2.2.2.1)) := by rw [ef185]; exact (hm_un (hrI 19 0 (by decide) (by decide) (by decide))).trans hu5
        have h214 : f185 ((r 20)) = some (eI Γ 64 (fun j => (mixE (unpK K i) K kp j).2.2.2.2.2.2)) := by rw [ef185]; exact (hm_un (hrI 20 0 (by decide) (by decide) (by decide))).trans hu6
        refine lv_aload_n hx hb dX8_judge_88 rfl (lv_at hl 1 rfl) ?_
        refine lv_dup hx hb dX8_judge_89 rfl ?_
        refine gf_X8_243 hx hb hts hown hK hH h187 rfl dX8_judge_90 ?_
        refine lv_aload_n hx hb dX8_judge_93 rfl (lv_at hl 1 rfl) ?_
        refine gf_X8_35 hx hb hts hown hK hH h187 rfl dX8_judge_94 ?_
        refine lv_iload_n hx hb dX8_judge_97 rfl (lv_at hl 2 rfl) ?_
        refine hm_iald hx hb hK hH h195 (vp_in_nI hi8 (by decide)) dX8_judge_98 ?_
        refine lv_topi (fun v215 ev215 => ?_)
        replace ev215 : v215 = (gs i).2.2.2.2.2.2.2.1 := ev215.trans (by show (gs (nI i).toNatClampNeg).2.2.2.2.2.2.2.1 = _; rw [nI_clamp (n := i) (by omega)])
        subst ev215
        refine lv_i2l hx hb dX8_judge_99 rfl ?_
        refine lv_topl (fun v216 ev216 => ?_)
        replace ev216 : v216 = ((gs i).2.2.2.2.2.2.2.1.toInt64) := ev216.trans (rfl)
        subst ev216
        refine lv_ladd hx hb dX8_judge_100 ?_
        refine lv_topl (fun v217 ev217 => ?_)
        replace ev217 : v217 = (rf + (gs i).2.2.2.2.2.2.2.1.toInt64) := ev217.trans (rfl)
        subst ev217
        refine pf_X8_243 hx hb hts hown hK hO hS hH h187 rfl (Nat.le_of_ble_eq_true rfl) rfl dX8_judge_101 (fun H locs hH hS => ?_)
        obtain ⟨f218, ef218⟩ : ∃ zz_, zz_ = hm_up f185 m0 (eM r 0 (nI np) (nI ng) (nI nt) (nI kp) (nI rr) ck lim dz gd hih mih fh msh msm mso sp ((rf + (gs i).2.2.2.2.2.2.2.1.toInt64))) := ⟨_, rfl⟩
        have hH : hm_H Γ f218 H := by rw [ef218]; exact hH
        have h219 : f218 m0 = some (eM r 0 (nI np) (nI ng) (nI nt) (nI kp) (nI rr) ck lim dz gd hih mih fh msh msm mso sp ((rf + (gs i).2.2.2.2.2.2.2.1.toInt64))) := by rw [ef218]; exact hm_us
        have h220 : f218 ((r 0)) = some (eI Γ 4 (upd mon ((gs i).1) ((mon (gs i).1 + (gs i).2.2.2.2.2.2.2.1)))) := by rw [ef218]; exact (hm_un (hm_ne h186 h187 (fun q => by cases q))).trans h186
        have h221 : f218 ((r 1)) = some (eJ Γ 8 (fun i => b4 (gs i).2.1)) := by rw [ef218]; exact (hm_un (hm_ne h188 h187 (fun q => by cases q))).trans h188
        have h222 : f218 ((r 2)) = some (eI Γ 8 (fun i => nI (gs i).2.2.1)) := by rw [ef218]; exact (hm_un (hm_ne h189 h187 (fun q => by cases q))).trans h189
        have h223 : f218 ((r 3)) = some (eI Γ 8 (fun i => nI (gs i).1)) := by rw [ef218]; exact (hm_un (hm_ne h190 h187 (fun q => by cases q))).trans h190
        have h224 : f218 ((r 4)) = some (eI Γ 8 (fun i => (gs i).2.2.2.1)) := by rw [ef218]; exact (hm_un (hm_ne h191 h187 (fun q => by cases q))).trans h191
        have h225 : f218 ((r 5)) = some (eI Γ 8 (fun i => (gs i).2.2.2.2.1)) := by rw [ef218]; exact (hm_un (hm_ne h192 h187 (fun q => by cases q))).trans h192
        have h226 : f218 ((r 6)) = some (eI Γ 8 (fun i => (gs i).2.2.2.2.2.1)) := by rw [ef218]; exact (hm_un (hm_ne h193 h187 (fun q => by cases q))).trans h193
        have h227 : f218 ((r 7)) = some (eI Γ 8 (fun i => (gs i).2.2.2.2.2.2.1)) := by rw [ef218]; exact (hm_un (hm_ne h194 h187 (fun q => by cases q))).trans h194
        have h228 : f218 ((r 8)) = some (eI Γ 8 (fun i => (gs i).2.2.2.2.2.2.2.1)) := by rw [ef218]; exact (hm_un (hm_ne h195 h187 (fun q => by cases q))).trans h195
        have h229 : f218 ((r 9)) = some (eZ Γ 8 (upd (fun i => bI (gs i).2.2.2.2.2.2.2.2) i (vp_nar .boolean 1))) := by rw [ef218]; exact (hm_un (hm_ne h196 h187 (fun q => by cases q))).trans h196
        have h230 : f218 ((r 10)) = some (eJ Γ 60 (fun i => b4 (ts i).2.1)) := by rw [ef218]; exact (hm_un (hm_ne h197 h187 (fun q => by cases q))).trans h197
        have h231 : f218 ((r 11)) = some (eI Γ 60 (fun i => nI (ts i).2.2.1)) := by rw [ef218]; exact (hm_un (hm_ne h198 h187 (fun q => by cases q))).trans h198
        have h232 : f218 ((r 12)) = some (eI Γ 60 (fun i => nI (ts i).1)) := by rw [ef218]; exact (hm_un (hm_ne h199 h187 (fun q => by cases q))).trans h199
        have h233 : f218 ((r 13)) = some (eI Γ 60 (fun i => (ts i).2.2.2)) := by rw [ef218]; exact (hm_un (hm_ne h200 h187 (fun q => by cases q))).trans h200
        have h234 : f218 ((r 21)) = some (eJ Γ 6 pb) := by rw [ef218]; exact (hm_un (hm_ne h201 h187 (fun q => by cases q))).trans h201
        have h235 : f218 ((r 22)) = some (eI Γ 6 pz) := by rw [ef218]; exact (hm_un (hm_ne h202 h187 (fun q => by cases q))).trans h202
        have h236 : f218 ((r 23)) = some (eI Γ 6 pd) := by rw [ef218]; exact (hm_un (hm_ne h203 h187 (fun q => by cases q))).trans h203
        have h237 : f218 ((r 24)) = some (eI Γ 6 pn) := by rw [ef218]; exact (hm_un (hm_ne h204 h187 (fun q => by cases q))).trans h204
        have h238 : f218 ((r 25)) = some (eI Γ 6 pe) := by rw [ef218]; exact (hm_un (hm_ne h205 h187 (fun q => by cases q))).trans h205
        have h239 : f218 ((r 26)) = some (eI Γ 6 ph) := by rw [ef218]; exact (hm_un (hm_ne h206 h187 (fun q => by cases q))).trans h206
        have h240 : f218 ((r 27)) = some (eI Γ 6 pg) := by rw [ef218]; exact (hm_un (hm_ne h207 h187 (fun q => by cases q))).trans h207
        have h241 : f218 ((r 14)) = some (eJ Γ 64 (fun j => (mixE (unpK K i) K kp j).1)) := by rw [ef218]; exact (hm_un (hm_ne h208 h187 (fun q => by cases q))).trans h208
        have h242 : f218 ((r 15)) = some (eI Γ 64 (fun j => (mixE (unpK K i) K kp j).2.1)) := by rw [ef218]; exact (hm_un (hm_ne h209 h187 (fun q => by cases q))).trans h209
        have h243 : f218 ((r 16)) = some (eI Γ 64 (fun j => (mixE (unpK K i) K kp j).2.2.1)) := by rw [ef218]; exact (hm_un (hm_ne h210 h187 (fun q => by cases q))).trans h210
        have h244 : f218 ((r 17)) = some (eI Γ 64 (fun j => (mixE (unpK K i) K kp j).2.2.2.1)) := by rw [ef218]; exact (hm_un (hm_ne h211 h187 (fun q => by cases q))).trans h211
        have h245 : f218 ((r 18)) = some (eI Γ 64 (fun j => (mixE (unpK K i) K kp j).2.2.2.2.1)) := by rw [ef218]; exact (hm_un (hm_ne h212 h187 (fun q => by cases q))).trans h212
        have h246 : f218 ((r 19)) = some (eI Γ 64 (fun j => (mixE (unpK K i) K kp j).2.2.2.2.2.1)) := by rw [ef218]; exact (hm_un (hm_ne h213 h187 (fun q => by cases q))).trans h213
        have h247 : f218 ((r 20)) = some (eI Γ 64 (fun j => (mixE (unpK K i) K kp j).2.2.2.2.2.2)) := by rw [ef218]; exact (hm_un (hm_ne h214 h187 (fun q => by cases q))).trans h214
        refine lv_aload_n hx hb dX8_judge_104 rfl (lv_at hl 1 rfl) ?_
        refine gf_X8_35 hx hb hts hown hK hH h219 rfl dX8_judge_105 ?_
        refine lv_iload_n hx hb dX8_judge_108 rfl (lv_at hl 2 rfl) ?_
        refine hm_iald hx hb hK hH h228 (vp_in_nI hi8 (by decide)) dX8_judge_109 ?_
        refine lv_topi (fun v248 ev248 => ?_)
        replace ev248 : v248 = (gs i).2.2.2.2.2.2.2.1 := ev248.trans (by show (gs (nI i).toNatClampNeg).2.2.2.2.2.2.2.1 = _; rw [nI_clamp (n := i) (by omega)])
        subst ev248
        have hfr9 : hm_fr (mS m0 r) f f218 := by
          rw [ef218, ef185]
          exact ((hfrw2).up (mS_r (by decide))).up mS_0
        exact hm_iret hx hb hr hlocks hS hH (⟨Or.inl ⟨by rw [hb1]; (try rw [hix]); rw [hb93]; rfl, by rw [hix, if_neg hlt], MW.mk (by (try rw [hix]); simp only [if_neg hlt]; exact h219) ⟨⟨(by rw [hix]; simp only [if_neg hlt]; exact h241), (by rw [hix]; simp only [if_neg hlt]; exact h242), (by rw [hix]; simp only [if_neg hlt]; exact h243), (by rw [hix]; simp only [if_neg hlt]; exact h244), (by rw [hix]; simp only [if_neg hlt]; exact h245), (by rw [hix]; simp only [if_neg hlt]; exact h246), (by rw [hix]; simp only [if_neg hlt]; exact h247)⟩, ⟨_, _, _, _, _, _, _, h234, h235, h236, h237, h238, h239, h240⟩, (by rw [hix]; simp only [if_neg hlt]; exact h220), ⟨(by rw [hix]; simp only [if_neg hlt]; exact h221.trans (congrArg some (congrArg (eJ Γ 8) (gset_p (fun x : GS => b4 (x).2.1) (gs := gs) (i := i) (y := ((gs i).1, (gs i).2.1, (gs i).2.2.1, (gs i).2.2.2.1, (gs i).2.2.2.2.1, (gs i).2.2.2.2.2.1, (gs i).2.2.2.2.2.2.1, (gs i).2.2.2.2.2.2.2.1, true)) rfl)))), (by rw [hix]; simp only [if_neg hlt]; exact h222.trans (congrArg some (congrArg (eI Γ 8) (gset_p (fun x : GS => nI (x).2.2.1) (gs := gs) (i := i) (y := ((gs i).1, (gs i).2.1, (gs i).2.2.1, (gs i).2.2.2.1, (gs i).2.2.2.2.1, (gs i).2.2.2.2.2.1, (gs i).2.2.2.2.2.2.1, (gs i).2.2.2.2.2.2.2.1, true)) rfl)))), (by rw [hix]; simp only [if_neg hlt]; exact h223.trans (congrArg some (congrArg (eI Γ 8) (gset_p (fun x : GS => nI (x).1) (gs := gs) (i := i) (y := ((gs i).1, (gs i).2.1, (gs i).2.2.1, (gs i).2.2.2.1, (gs i).2.2.2.2.1, (gs i).2.2.2.2.2.1, (gs i).2.2.2.2.2.2.1, (gs i).2.2.2.2.2.2.2.1, true)) rfl)))), (by rw [hix]; simp only [if_neg hlt]; exact h224.trans (congrArg some (congrArg (eI Γ 8) (gset_p (fun x : GS => (x).2.2.2.1) (gs := gs) (i := i) (y := ((gs i).1, (gs i).2.1, (gs i).2.2.1, (gs i).2.2.2.1, (gs i).2.2.2.2.1, (gs i).2.2.2.2.2.1, (gs i).2.2.2.2.2.2.1, (gs i).2.2.2.2.2.2.2.1, true)) rfl)))), (by rw [hix]; simp only [if_neg hlt]; exact h225.trans (congrArg some (congrArg (eI Γ 8) (gset_p (fun x : GS => (x).2.2.2.2.1) (gs := gs) (i := i) (y := ((gs i).1, (gs i).2.1, (gs i).2.2.1, (gs i).2.2.2.1, (gs i).2.2.2.2.1, (gs i).2.2.2.2.2.1, (gs i).2.2.2.2.2.2.1, (gs i).2.2.2.2.2.2.2.1, true)) rfl)))), (by rw [hix]; simp only [if_neg hlt]; exact h226.trans (congrArg some (congrArg (eI Γ 8) (gset_p (fun x : GS => (x).2.2.2.2.2.1) (gs := gs) (i := i) (y := ((gs i).1, (gs i).2.1, (gs i).2.2.1, (gs i).2.2.2.1, (gs i).2.2.2.2.1, (gs i).2.2.2.2.2.1, (gs i).2.2.2.2.2.2.1, (gs i).2.2.2.2.2.2.2.1, true)) rfl)))), (by rw [hix]; simp only [if_neg hlt]; exact h227.trans (congrArg some (congrArg (eI Γ 8) (gset_p (fun x : GS => (x).2.2.2.2.2.2.1) (gs := gs) (i := i) (y := ((gs i).1, (gs i).2.1, (gs i).2.2.1, (gs i).2.2.2.1, (gs i).2.2.2.2.1, (gs i).2.2.2.2.2.1, (gs i).2.2.2.2.2.2.1, (gs i).2.2.2.2.2.2.2.1, true)) rfl)))), (by rw [hix]; simp only [if_neg hlt]; exact h228.trans (congrArg some (congrArg (eI Γ 8) (gset_p (fun x : GS => (x).2.2.2.2.2.2.2.1) (gs := gs) (i := i) (y := ((gs i).1, (gs i).2.1, (gs i).2.2.1, (gs i).2.2.2.1, (gs i).2.2.2.2.1, (gs i).2.2.2.2.2.1, (gs i).2.2.2.2.2.2.1, (gs i).2.2.2.2.2.2.2.1, true)) rfl)))), (by rw [hix]; simp only [if_neg hlt]; exact h229.trans (congrArg some (congrArg (eZ Γ 8) (upd_fun (fun x : GS => bI x.2.2.2.2.2.2.2.2) gs i ((gs i).1, (gs i).2.1, (gs i).2.2.1, (gs i).2.2.2.1, (gs i).2.2.2.2.1, (gs i).2.2.2.2.2.1, (gs i).2.2.2.2.2.2.1, (gs i).2.2.2.2.2.2.2.1, true)))))⟩, h230, h231, h232, h233⟩⟩, hfr9.k⟩) (Nat.le_of_ble_eq_true rfl) (Nat.le_of_ble_eq_true rfl) dX8_judge_110
      · have hlt : (gs i).2.2.2.2.2.2.1 < lim := Int32.not_le.mp c126
        refine lv_iconst (v := (-1)) hx hb dX8_judge_45 (by decide) ?_
        have hfr9 : hm_fr (mS m0 r) f fn94 := by
          rw [efn94, efn1]
          exact ((hm_fr.rf (S := mS m0 r)).up mS_0).up mS_0
        exact hm_iret hx hb hr hlocks hS hH (⟨Or.inl ⟨by rw [hb1]; (try rw [hix]); rw [hb93]; rfl, by rw [hix, if_pos hlt], MW.mk (by (try rw [hix]); simp only [if_pos hlt]; exact hm95) ⟨⟨(by rw [hix]; simp only [if_pos hlt]; exact h110), (by rw [hix]; simp only [if_pos hlt]; exact h111), (by rw [hix]; simp only [if_pos hlt]; exact h112), (by rw [hix]; simp only [if_pos hlt]; exact h113), (by rw [hix]; simp only [if_pos hlt]; exact h114), (by rw [hix]; simp only [if_pos hlt]; exact h115), (by rw [hix]; simp only [if_pos hlt]; exact h116)⟩, ⟨_, _, _, _, _, _, _, h117, h118, h119, h120, h121, h122, h123⟩, (by rw [hix]; simp only [if_pos hlt]; exact h96), ⟨(by rw [hix]; simp only [if_pos hlt]; exact h97), (by rw [hix]; simp only [if_pos hlt]; exact h98), (by rw [hix]; simp only [if_pos hlt]; exact h99), (by rw [hix]; simp only [if_pos hlt]; exact h100), (by rw [hix]; simp only [if_pos hlt]; exact h101), (by rw [hix]; simp only [if_pos hlt]; exact h102), (by rw [hix]; simp only [if_pos hlt]; exact h103), (by rw [hix]; simp only [if_pos hlt]; exact h104), (by rw [hix]; simp only [if_pos hlt]; exact h105)⟩, h106, h107, h108, h109⟩⟩, hfr9.k⟩) (Nat.le_of_ble_eq_true rfl) (Nat.le_of_ble_eq_true rfl) dX8_judge_46
  · rw [hb1] at efn1
    refine W.eq (g2 := F0 m 5 ls [.int 1]) (by rw [hb1]; rfl) ?_
    have hm1_ : fn1 m0 = some (eM r 1 (nI np) (nI ng) (nI nt) (nI kp) (nI rr) ck lim dz gd hih mih fh msh msm mso sp rf) := by rw [efn1]; exact hm_us
    have h30 : fn1 ((r 0)) = some (eI Γ 4 mon) := by rw [efn1]; exact (hm_un (hm_ne h0 hm0 (fun q => by cases q))).trans h0
    have h31 : fn1 ((r 1)) = some (eJ Γ 8 (fun i => b4 (gs i).2.1)) := by rw [efn1]; exact (hm_un (hm_ne hg1 hm0 (fun q => by cases q))).trans hg1
    have h32 : fn1 ((r 2)) = some (eI Γ 8 (fun i => nI (gs i).2.2.1)) := by rw [efn1]; exact (hm_un (hm_ne hg2 hm0 (fun q => by cases q))).trans hg2
    have h33 : fn1 ((r 3)) = some (eI Γ 8 (fun i => nI (gs i).1)) := by rw [efn1]; exact (hm_un (hm_ne hg3 hm0 (fun q => by cases q))).trans hg3
    have h34 : fn1 ((r 4)) = some (eI Γ 8 (fun i => (gs i).2.2.2.1)) := by rw [efn1]; exact (hm_un (hm_ne hg4 hm0 (fun q => by cases q))).trans hg4
    have h35 : fn1 ((r 5)) = some (eI Γ 8 (fun i => (gs i).2.2.2.2.1)) := by rw [efn1]; exact (hm_un (hm_ne hg5 hm0 (fun q => by cases q))).trans hg5
    have h36 : fn1 ((r 6)) = some (eI Γ 8 (fun i => (gs i).2.2.2.2.2.1)) := by rw [efn1]; exact (hm_un (hm_ne hg6 hm0 (fun q => by cases q))).trans hg6
    have h37 : fn1 ((r 7)) = some (eI Γ 8 (fun i => (gs i).2.2.2.2.2.2.1)) := by rw [efn1]; exact (hm_un (hm_ne hg7 hm0 (fun q => by cases q))).trans hg7
    have h38 : fn1 ((r 8)) = some (eI Γ 8 (fun i => (gs i).2.2.2.2.2.2.2.1)) := by rw [efn1]; exact (hm_un (hm_ne hg8 hm0 (fun q => by cases q))).trans hg8
    have h39 : fn1 ((r 9)) = some (eZ Γ 8 (fun i => bI (gs i).2.2.2.2.2.2.2.2)) := by rw [efn1]; exact (hm_un (hm_ne hg9 hm0 (fun q => by cases q))).trans hg9
    have h40 : fn1 ((r 10)) = some (eJ Γ 60 (fun i => b4 (ts i).2.1)) := by rw [efn1]; exact (hm_un (hm_ne ht10 hm0 (fun q => by cases q))).trans ht10
    have h41 : fn1 ((r 11)) = some (eI Γ 60 (fun i => nI (ts i).2.2.1)) := by rw [efn1]; exact (hm_un (hm_ne ht11 hm0 (fun q => by cases q))).trans ht11
    have h42 : fn1 ((r 12)) = some (eI Γ 60 (fun i => nI (ts i).1)) := by rw [efn1]; exact (hm_un (hm_ne ht12 hm0 (fun q => by cases q))).trans ht12
    have h43 : fn1 ((r 13)) = some (eI Γ 60 (fun i => (ts i).2.2.2)) := by rw [efn1]; exact (hm_un (hm_ne ht13 hm0 (fun q => by cases q))).trans ht13
    have h44 : fn1 ((r 14)) = some (eJ Γ 64 (fun j => (K j).1)) := by rw [efn1]; exact (hm_un (hm_ne hk0 hm0 (fun q => by cases q))).trans hk0
    have h45 : fn1 ((r 15)) = some (eI Γ 64 (fun j => (K j).2.1)) := by rw [efn1]; exact (hm_un (hm_ne hk1 hm0 (fun q => by cases q))).trans hk1
    have h46 : fn1 ((r 16)) = some (eI Γ 64 (fun j => (K j).2.2.1)) := by rw [efn1]; exact (hm_un (hm_ne hk2 hm0 (fun q => by cases q))).trans hk2
    have h47 : fn1 ((r 17)) = some (eI Γ 64 (fun j => (K j).2.2.2.1)) := by rw [efn1]; exact (hm_un (hm_ne hk3 hm0 (fun q => by cases q))).trans hk3
    have h48 : fn1 ((r 18)) = some (eI Γ 64 (fun j => (K j).2.2.2.2.1)) := by rw [efn1]; exact (hm_un (hm_ne hk4 hm0 (fun q => by cases q))).trans hk4
    have h49 : fn1 ((r 19)) = some (eI Γ 64 (fun j => (K j).2.2.2.2.2.1)) := by rw [efn1]; exact (hm_un (hm_ne hk5 hm0 (fun q => by cases q))).trans hk5
    have h50 : fn1 ((r 20)) = some (eI Γ 64 (fun j => (K j).2.2.2.2.2.2)) := by rw [efn1]; exact (hm_un (hm_ne hk6 hm0 (fun q => by cases q))).trans hk6
    have h51 : fn1 ((r 21)) = some (eJ Γ 6 pb) := by rw [efn1]; exact (hm_un (hm_ne hp0 hm0 (fun q => by cases q))).trans hp0
    have h52 : fn1 ((r 22)) = some (eI Γ 6 pz) := by rw [efn1]; exact (hm_un (hm_ne hp1 hm0 (fun q => by cases q))).trans hp1
    have h53 : fn1 ((r 23)) = some (eI Γ 6 pd) := by rw [efn1]; exact (hm_un (hm_ne hp2 hm0 (fun q => by cases q))).trans hp2
    have h54 : fn1 ((r 24)) = some (eI Γ 6 pn) := by rw [efn1]; exact (hm_un (hm_ne hp3 hm0 (fun q => by cases q))).trans hp3
    have h55 : fn1 ((r 25)) = some (eI Γ 6 pe) := by rw [efn1]; exact (hm_un (hm_ne hp4 hm0 (fun q => by cases q))).trans hp4
    have h56 : fn1 ((r 26)) = some (eI Γ 6 ph) := by rw [efn1]; exact (hm_un (hm_ne hp5 hm0 (fun q => by cases q))).trans hp5
    have h57 : fn1 ((r 27)) = some (eI Γ 6 pg) := by rw [efn1]; exact (hm_un (hm_ne hp6 hm0 (fun q => by cases q))).trans hp6
    refine lv_if_ne (tgt := 30) hx hb dX8_judge_5 (by decide) (fun _ => ?_) (fun c249 => absurd c249 (by decide))
    refine lv_iconst (v := 0) hx hb dX8_judge_30 (by decide) ?_
    have hfr9 : hm_fr (mS m0 r) f fn1 := by
      rw [efn1]
      exact (hm_fr.rf (S := mS m0 r)).up mS_0
    exact hm_iret hx hb hr hlocks hS hH (⟨Or.inr ⟨by rw [hb1]; exact (show (1 : Int32) ≠ 0 by decide), ⟨_, rfl⟩, by rw [hb1]; exact MW.mk hm1_ ⟨⟨h44, h45, h46, h47, h48, h49, h50⟩, ⟨_, _, _, _, _, _, _, h51, h52, h53, h54, h55, h56, h57⟩, h30, ⟨h31, h32, h33, h34, h35, h36, h37, h38, h39⟩, h40, h41, h42, h43⟩⟩, hfr9.k⟩) (Nat.le_of_ble_eq_true rfl) (Nat.le_of_ble_eq_true rfl) dX8_judge_31
set_option maxHeartbeats 4000000 in
set_option maxRecDepth 100000 in
theorem w_X8_noHint (Γ : Gm) (l : Launch) (m0 : Nat) (r : Nat → Nat) (th : Int32) (K : Nat → EV) (kp : Nat) (ck msh msm mso : Int32) (np : Nat) (mon : Nat → Int32) (ng : Nat) (gs : Nat → GS) (nt : Nat) (ts : Nat → TR) (lim : Int32) (rf sp : Int64) (rr : Nat) (v0 v1 : Int32) (f : Hm) (hM : MW Γ f m0 r th K kp ck msh msm mso np mon ng gs nt ts lim rf sp rr) (hnp : np ≤ 4) (hng : ng ≤ 8) (hnt : nt ≤ 60) (hr1 : 1 ≤ rr) (hrr : rr ≤ 64) (hkr : kp ≤ rr) (hrI : rI r) (hgs : GOK np ng gs) : Ct Γ l yX8_noHint cX8_noHint 3 (some .boolean) 5 0 0 [.ref m0, .int v0, .int v1] f (fun v f' => (((if inB v0 (nI ng) then (if inR v1 1 4 then (if (!(gs (ix v0)).2.2.2.2.2.2.2.2 && !ovN (gs (ix v0)).2.1) then 0 else 3) else 2) else 1 : Int32) = 0 ∧ v = some (.int 0) ∧ MW Γ f' m0 r 0 K kp ck msh msm mso np mon ng gs nt ts lim rf sp rr) ∨ ((if inB v0 (nI ng) then (if inR v1 1 4 then (if (!(gs (ix v0)).2.2.2.2.2.2.2.2 && !ovN (gs (ix v0)).2.1) then 0 else 3) else 2) else 1 : Int32) ≠ 0 ∧ v = some (.int 1) ∧ MW Γ f' m0 r ((if inB v0 (nI ng) then (if inR v1 1 4 then (if (!(gs (ix v0)).2.2.2.2.2.2.2.2 && !ovN (gs (ix v0)).2.1) then 0 else 3) else 2) else 1)) K kp ck msh msm mso np mon ng gs nt ts lim rf sp rr)) ∧ hm_k (mS m0 r) f f') := by
  refine Ct_of (by decide +kernel) (Nat.le_of_ble_eq_true rfl) ?_
  intro p e s m args below meth c hx hb hr hml hown hin hlocks hts hH hO hK ls hl
  have hl : lv_has ls 3 [(0, .ref m0), (1, .int v0), (2, .int v1)] := hl
  have hS : va_S (gA Γ) s.heap s.heap [] := va_S.rf
  obtain ⟨⟨dz, gd, hih, mih, fh, hm0⟩, hR⟩ := id hM
  obtain ⟨⟨hk0, hk1, hk2, hk3, hk4, hk5, hk6⟩, ⟨pb, pz, pd, pn, pe, ph, pg, hp0, hp1, hp2, hp3, hp4, hp5, hp6⟩, h0, ⟨hg1, hg2, hg3, hg4, hg5, hg6, hg7, hg8, hg9⟩, ht10, ht11, ht12, ht13⟩ := id hR
  refine lv_aload_n hx hb dX8_noHint_0 rfl (lv_at hl 0 rfl) ?_
  refine lv_iload_n hx hb dX8_noHint_1 rfl (lv_at hl 1 rfl) ?_
  refine hm_callV (rest := []) (k := 2) q5_146 q5_148 q1_9 q5_149 q0_19 rfl nm_X8_noGame rfl hx hb hml hown hts hK hO hS hH hl.1 hm0 (c_X8_noGame Γ l m0 r th (nI np) (nI ng) (nI nt) (nI kp) (nI rr) ck lim dz gd hih mih fh msh msm mso sp rf v0 f hm0) ⟨Nat.le_of_ble_eq_true rfl, Nat.le_of_ble_eq_true rfl⟩ ⟨Nat.le_of_ble_eq_true rfl, Nat.le_of_ble_eq_true rfl⟩ rfl (Nat.le_of_ble_eq_true rfl) dX8_noHint_2 (fun v_ fn1 H locs hp_ hH hS => ?_)
  obtain ⟨rfl, efn1⟩ := hp_
  rcases bTF (inB v0 (nI ng)) with hb1 | hb1
  · rw [hb1] at efn1
    refine W.eq (g2 := F0 m 5 ls [.int 0]) (by rw [hb1]; rfl) ?_
    have hm1_ : fn1 m0 = some (eM r 0 (nI np) (nI ng) (nI nt) (nI kp) (nI rr) ck lim dz gd hih mih fh msh msm mso sp rf) := by rw [efn1]; exact hm_us
    have h2 : fn1 ((r 0)) = some (eI Γ 4 mon) := by rw [efn1]; exact (hm_un (hm_ne h0 hm0 (fun q => by cases q))).trans h0
    have h3 : fn1 ((r 1)) = some (eJ Γ 8 (fun i => b4 (gs i).2.1)) := by rw [efn1]; exact (hm_un (hm_ne hg1 hm0 (fun q => by cases q))).trans hg1
    have h4 : fn1 ((r 2)) = some (eI Γ 8 (fun i => nI (gs i).2.2.1)) := by rw [efn1]; exact (hm_un (hm_ne hg2 hm0 (fun q => by cases q))).trans hg2
    have h5 : fn1 ((r 3)) = some (eI Γ 8 (fun i => nI (gs i).1)) := by rw [efn1]; exact (hm_un (hm_ne hg3 hm0 (fun q => by cases q))).trans hg3
    have h6 : fn1 ((r 4)) = some (eI Γ 8 (fun i => (gs i).2.2.2.1)) := by rw [efn1]; exact (hm_un (hm_ne hg4 hm0 (fun q => by cases q))).trans hg4
    have h7 : fn1 ((r 5)) = some (eI Γ 8 (fun i => (gs i).2.2.2.2.1)) := by rw [efn1]; exact (hm_un (hm_ne hg5 hm0 (fun q => by cases q))).trans hg5
    have h8 : fn1 ((r 6)) = some (eI Γ 8 (fun i => (gs i).2.2.2.2.2.1)) := by rw [efn1]; exact (hm_un (hm_ne hg6 hm0 (fun q => by cases q))).trans hg6
    have h9 : fn1 ((r 7)) = some (eI Γ 8 (fun i => (gs i).2.2.2.2.2.2.1)) := by rw [efn1]; exact (hm_un (hm_ne hg7 hm0 (fun q => by cases q))).trans hg7
    have h10 : fn1 ((r 8)) = some (eI Γ 8 (fun i => (gs i).2.2.2.2.2.2.2.1)) := by rw [efn1]; exact (hm_un (hm_ne hg8 hm0 (fun q => by cases q))).trans hg8
    have h11 : fn1 ((r 9)) = some (eZ Γ 8 (fun i => bI (gs i).2.2.2.2.2.2.2.2)) := by rw [efn1]; exact (hm_un (hm_ne hg9 hm0 (fun q => by cases q))).trans hg9
    have h12 : fn1 ((r 10)) = some (eJ Γ 60 (fun i => b4 (ts i).2.1)) := by rw [efn1]; exact (hm_un (hm_ne ht10 hm0 (fun q => by cases q))).trans ht10
    have h13 : fn1 ((r 11)) = some (eI Γ 60 (fun i => nI (ts i).2.2.1)) := by rw [efn1]; exact (hm_un (hm_ne ht11 hm0 (fun q => by cases q))).trans ht11
    have h14 : fn1 ((r 12)) = some (eI Γ 60 (fun i => nI (ts i).1)) := by rw [efn1]; exact (hm_un (hm_ne ht12 hm0 (fun q => by cases q))).trans ht12
    have h15 : fn1 ((r 13)) = some (eI Γ 60 (fun i => (ts i).2.2.2)) := by rw [efn1]; exact (hm_un (hm_ne ht13 hm0 (fun q => by cases q))).trans ht13
    have h16 : fn1 ((r 14)) = some (eJ Γ 64 (fun j => (K j).1)) := by rw [efn1]; exact (hm_un (hm_ne hk0 hm0 (fun q => by cases q))).trans hk0
    have h17 : fn1 ((r 15)) = some (eI Γ 64 (fun j => (K j).2.1)) := by rw [efn1]; exact (hm_un (hm_ne hk1 hm0 (fun q => by cases q))).trans hk1
    have h18 : fn1 ((r 16)) = some (eI Γ 64 (fun j => (K j).2.2.1)) := by rw [efn1]; exact (hm_un (hm_ne hk2 hm0 (fun q => by cases q))).trans hk2
    have h19 : fn1 ((r 17)) = some (eI Γ 64 (fun j => (K j).2.2.2.1)) := by rw [efn1]; exact (hm_un (hm_ne hk3 hm0 (fun q => by cases q))).trans hk3
    have h20 : fn1 ((r 18)) = some (eI Γ 64 (fun j => (K j).2.2.2.2.1)) := by rw [efn1]; exact (hm_un (hm_ne hk4 hm0 (fun q => by cases q))).trans hk4
    have h21 : fn1 ((r 19)) = some (eI Γ 64 (fun j => (K j).2.2.2.2.2.1)) := by rw [efn1]; exact (hm_un (hm_ne hk5 hm0 (fun q => by cases q))).trans hk5
    have h22 : fn1 ((r 20)) = some (eI Γ 64 (fun j => (K j).2.2.2.2.2.2)) := by rw [efn1]; exact (hm_un (hm_ne hk6 hm0 (fun q => by cases q))).trans hk6
    have h23 : fn1 ((r 21)) = some (eJ Γ 6 pb) := by rw [efn1]; exact (hm_un (hm_ne hp0 hm0 (fun q => by cases q))).trans hp0
    have h24 : fn1 ((r 22)) = some (eI Γ 6 pz) := by rw [efn1]; exact (hm_un (hm_ne hp1 hm0 (fun q => by cases q))).trans hp1
    have h25 : fn1 ((r 23)) = some (eI Γ 6 pd) := by rw [efn1]; exact (hm_un (hm_ne hp2 hm0 (fun q => by cases q))).trans hp2
    have h26 : fn1 ((r 24)) = some (eI Γ 6 pn) := by rw [efn1]; exact (hm_un (hm_ne hp3 hm0 (fun q => by cases q))).trans hp3
    have h27 : fn1 ((r 25)) = some (eI Γ 6 pe) := by rw [efn1]; exact (hm_un (hm_ne hp4 hm0 (fun q => by cases q))).trans hp4
    have h28 : fn1 ((r 26)) = some (eI Γ 6 ph) := by rw [efn1]; exact (hm_un (hm_ne hp5 hm0 (fun q => by cases q))).trans hp5
    have h29 : fn1 ((r 27)) = some (eI Γ 6 pg) := by rw [efn1]; exact (hm_un (hm_ne hp6 hm0 (fun q => by cases q))).trans hp6
    obtain ⟨i, hi, rfl⟩ := (inB_iff (by omega)).mp hb1
    obtain ⟨hgo, hgw, hgz⟩ := hgs i hi
    have hi8 : i < 8 := by omega
    have hix : ix (nI i) = i := ix_nI (by omega)
    have ht15 : tl 15 (gs i).2.1 := tl_mono (tl12 (by omega)) (by decide)
    refine lv_if_ne (tgt := 66) hx hb dX8_noHint_5 (by decide) (fun c58 => absurd (by decide) c58) (fun _ => ?_)
    refine lv_aload_n hx hb dX8_noHint_8 rfl (lv_at hl 0 rfl) ?_
    refine lv_iload_n hx hb dX8_noHint_9 rfl (lv_at hl 2 rfl) ?_
    refine lv_iconst (v := 1) hx hb dX8_noHint_10 (by decide) ?_
    refine lv_icmp_lt (tgt := 23) hx hb dX8_noHint_11 (by decide) (fun c59 => ?_) (fun c59 => ?_)
    · refine lv_iconst (v := 0) hx hb dX8_noHint_23 (by decide) ?_
      refine lv_iconst (v := 2) hx hb dX8_noHint_24 (by decide) ?_
      have hb60 : (inR v1 1 4) = false := (by unfold inR; rw [decide_eq_false (Int32.not_le.mpr c59)]; rfl)
      refine W.eq (g2 := F0 m 25 ls [.int 2, .int (bI (inR v1 1 4)), .ref m0]) (by rw [hb60]; rfl) ?_
      refine hm_callV (rest := []) (k := 1) q5_119 q5_121 q1_9 q5_122 q0_17 rfl nm_X8_no rfl hx hb hml hown hts hK hO hS hH hl.1 hm1_ (c_X8_no Γ l m0 r 0 (nI np) (nI ng) (nI nt) (nI kp) (nI rr) ck lim dz gd hih mih fh msh msm mso sp rf (inR v1 1 4) 2 fn1 hm1_) ⟨Nat.le_of_ble_eq_true rfl, Nat.le_of_ble_eq_true rfl⟩ ⟨Nat.le_of_ble_eq_true rfl, Nat.le_of_ble_eq_true rfl⟩ rfl (Nat.le_of_ble_eq_true rfl) dX8_noHint_25 (fun v_ fn61 H locs hp_ hH hS => ?_)
      obtain ⟨rfl, efn61⟩ := hp_
      rw [hb60] at efn61
      refine W.eq (g2 := F0 m 28 ls [.int 1]) (by rw [hb60]; rfl) ?_
      have hm62 : fn61 m0 = some (eM r 2 (nI np) (nI ng) (nI nt) (nI kp) (nI rr) ck lim dz gd hih mih fh msh msm mso sp rf) := by rw [efn61]; exact hm_us
      have h63 : fn61 ((r 0)) = some (eI Γ 4 mon) := by rw [efn61]; exact (hm_un (hm_ne h2 hm1_ (fun q => by cases q))).trans h2
      have h64 : fn61 ((r 1)) = some (eJ Γ 8 (fun i => b4 (gs i).2.1)) := by rw [efn61]; exact (hm_un (hm_ne h3 hm1_ (fun q => by cases q))).trans h3
      have h65 : fn61 ((r 2)) = some (eI Γ 8 (fun i => nI (gs i).2.2.1)) := by rw [efn61]; exact (hm_un (hm_ne h4 hm1_ (fun q => by cases q))).trans h4
      have h66 : fn61 ((r 3)) = some (eI Γ 8 (fun i => nI (gs i).1)) := by rw [efn61]; exact (hm_un (hm_ne h5 hm1_ (fun q => by cases q))).trans h5
      have h67 : fn61 ((r 4)) = some (eI Γ 8 (fun i => (gs i).2.2.2.1)) := by rw [efn61]; exact (hm_un (hm_ne h6 hm1_ (fun q => by cases q))).trans h6
      have h68 : fn61 ((r 5)) = some (eI Γ 8 (fun i => (gs i).2.2.2.2.1)) := by rw [efn61]; exact (hm_un (hm_ne h7 hm1_ (fun q => by cases q))).trans h7
      have h69 : fn61 ((r 6)) = some (eI Γ 8 (fun i => (gs i).2.2.2.2.2.1)) := by rw [efn61]; exact (hm_un (hm_ne h8 hm1_ (fun q => by cases q))).trans h8
      have h70 : fn61 ((r 7)) = some (eI Γ 8 (fun i => (gs i).2.2.2.2.2.2.1)) := by rw [efn61]; exact (hm_un (hm_ne h9 hm1_ (fun q => by cases q))).trans h9
      have h71 : fn61 ((r 8)) = some (eI Γ 8 (fun i => (gs i).2.2.2.2.2.2.2.1)) := by rw [efn61]; exact (hm_un (hm_ne h10 hm1_ (fun q => by cases q))).trans h10
      have h72 : fn61 ((r 9)) = some (eZ Γ 8 (fun i => bI (gs i).2.2.2.2.2.2.2.2)) := by rw [efn61]; exact (hm_un (hm_ne h11 hm1_ (fun q => by cases q))).trans h11
      have h73 : fn61 ((r 10)) = some (eJ Γ 60 (fun i => b4 (ts i).2.1)) := by rw [efn61]; exact (hm_un (hm_ne h12 hm1_ (fun q => by cases q))).trans h12
      have h74 : fn61 ((r 11)) = some (eI Γ 60 (fun i => nI (ts i).2.2.1)) := by rw [efn61]; exact (hm_un (hm_ne h13 hm1_ (fun q => by cases q))).trans h13
      have h75 : fn61 ((r 12)) = some (eI Γ 60 (fun i => nI (ts i).1)) := by rw [efn61]; exact (hm_un (hm_ne h14 hm1_ (fun q => by cases q))).trans h14
      have h76 : fn61 ((r 13)) = some (eI Γ 60 (fun i => (ts i).2.2.2)) := by rw [efn61]; exact (hm_un (hm_ne h15 hm1_ (fun q => by cases q))).trans h15
      have h77 : fn61 ((r 14)) = some (eJ Γ 64 (fun j => (K j).1)) := by rw [efn61]; exact (hm_un (hm_ne h16 hm1_ (fun q => by cases q))).trans h16
      have h78 : fn61 ((r 15)) = some (eI Γ 64 (fun j => (K j).2.1)) := by rw [efn61]; exact (hm_un (hm_ne h17 hm1_ (fun q => by cases q))).trans h17
      have h79 : fn61 ((r 16)) = some (eI Γ 64 (fun j => (K j).2.2.1)) := by rw [efn61]; exact (hm_un (hm_ne h18 hm1_ (fun q => by cases q))).trans h18
      have h80 : fn61 ((r 17)) = some (eI Γ 64 (fun j => (K j).2.2.2.1)) := by rw [efn61]; exact (hm_un (hm_ne h19 hm1_ (fun q => by cases q))).trans h19
      have h81 : fn61 ((r 18)) = some (eI Γ 64 (fun j => (K j).2.2.2.2.1)) := by rw [efn61]; exact (hm_un (hm_ne h20 hm1_ (fun q => by cases q))).trans h20
      have h82 : fn61 ((r 19)) = some (eI Γ 64 (fun j => (K j).2.2.2.2.2.1)) := by rw [efn61]; exact (hm_un (hm_ne h21 hm1_ (fun q => by cases q))).trans h21
      have h83 : fn61 ((r 20)) = some (eI Γ 64 (fun j => (K j).2.2.2.2.2.2)) := by rw [efn61]; exact (hm_un (hm_ne h22 hm1_ (fun q => by cases q))).trans h22
      have h84 : fn61 ((r 21)) = some (eJ Γ 6 pb) := by rw [efn61]; exact (hm_un (hm_ne h23 hm1_ (fun q => by cases q))).trans h23
      have h85 : fn61 ((r 22)) = some (eI Γ 6 pz) := by rw [efn61]; exact (hm_un (hm_ne h24 hm1_ (fun q => by cases q))).trans h24
      have h86 : fn61 ((r 23)) = some (eI Γ 6 pd) := by rw [efn61]; exact (hm_un (hm_ne h25 hm1_ (fun q => by cases q))).trans h25
      have h87 : fn61 ((r 24)) = some (eI Γ 6 pn) := by rw [efn61]; exact (hm_un (hm_ne h26 hm1_ (fun q => by cases q))).trans h26
      have h88 : fn61 ((r 25)) = some (eI Γ 6 pe) := by rw [efn61]; exact (hm_un (hm_ne h27 hm1_ (fun q => by cases q))).trans h27
      have h89 : fn61 ((r 26)) = some (eI Γ 6 ph) := by rw [efn61]; exact (hm_un (hm_ne h28 hm1_ (fun q => by cases q))).trans h28
      have h90 : fn61 ((r 27)) = some (eI Γ 6 pg) := by rw [efn61]; exact (hm_un (hm_ne h29 hm1_ (fun q => by cases q))).trans h29
      refine lv_if_ne (tgt := 66) hx hb dX8_noHint_28 (by decide) (fun _ => ?_) (fun c91 => absurd c91 (by decide))
      refine lv_iconst (v := 1) hx hb dX8_noHint_66 (by decide) ?_
      refine lv_goto (tgt := 71) hx hb dX8_noHint_67 (by decide) ?_
      have hfr9 : hm_fr (mS m0 r) f fn61 := by
        rw [efn61, efn1]
        exact ((hm_fr.rf (S := mS m0 r)).up mS_0).up mS_0
      exact hm_zret hx hb hr rfl hlocks hS hH (⟨Or.inr ⟨by rw [hb1]; (try rw [hix]); rw [hb60]; exact (show (2 : Int32) ≠ 0 by decide), rfl, by rw [hb1]; (try rw [hix]); rw [hb60]; exact MW.mk hm62 ⟨⟨h77, h78, h79, h80, h81, h82, h83⟩, ⟨_, _, _, _, _, _, _, h84, h85, h86, h87, h88, h89, h90⟩, h63, ⟨h64, h65, h66, h67, h68, h69, h70, h71, h72⟩, h73, h74, h75, h76⟩⟩, hfr9.k⟩) (Nat.le_of_ble_eq_true rfl) (Nat.le_of_ble_eq_true rfl) dX8_noHint_71
    · refine lv_iload_n hx hb dX8_noHint_14 rfl (lv_at hl 2 rfl) ?_
      refine lv_iconst (v := 4) hx hb dX8_noHint_15 (by decide) ?_
      refine lv_icmp_gt (tgt := 23) hx hb dX8_noHint_16 (by decide) (fun c92 => ?_) (fun c92 => ?_)
      · refine lv_iconst (v := 0) hx hb dX8_noHint_23 (by decide) ?_
        refine lv_iconst (v := 2) hx hb dX8_noHint_24 (by decide) ?_
        have hb93 : (inR v1 1 4) = false := (by unfold inR; rw [decide_eq_false (Int32.not_le.mpr c92), Bool.and_false])
        refine W.eq (g2 := F0 m 25 ls [.int 2, .int (bI (inR v1 1 4)), .ref m0]) (by rw [hb93]; rfl) ?_
        refine hm_callV (rest := []) (k := 1) q5_119 q5_121 q1_9 q5_122 q0_17 rfl nm_X8_no rfl hx hb hml hown hts hK hO hS hH hl.1 hm1_ (c_X8_no Γ l m0 r 0 (nI np) (nI ng) (nI nt) (nI kp) (nI rr) ck lim dz gd hih mih fh msh msm mso sp rf (inR v1 1 4) 2 fn1 hm1_) ⟨Nat.le_of_ble_eq_true rfl, Nat.le_of_ble_eq_true rfl⟩ ⟨Nat.le_of_ble_eq_true rfl, Nat.le_of_ble_eq_true rfl⟩ rfl (Nat.le_of_ble_eq_true rfl) dX8_noHint_25 (fun v_ fn94 H locs hp_ hH hS => ?_)
        obtain ⟨rfl, efn94⟩ := hp_
        rw [hb93] at efn94
        refine W.eq (g2 := F0 m 28 ls [.int 1]) (by rw [hb93]; rfl) ?_
        have hm95 : fn94 m0 = some (eM r 2 (nI np) (nI ng) (nI nt) (nI kp) (nI rr) ck lim dz gd hih mih fh msh msm mso sp rf) := by rw [efn94]; exact hm_us
        have h96 : fn94 ((r 0)) = some (eI Γ 4 mon) := by rw [efn94]; exact (hm_un (hm_ne h2 hm1_ (fun q => by cases q))).trans h2
        have h97 : fn94 ((r 1)) = some (eJ Γ 8 (fun i => b4 (gs i).2.1)) := by rw [efn94]; exact (hm_un (hm_ne h3 hm1_ (fun q => by cases q))).trans h3
        have h98 : fn94 ((r 2)) = some (eI Γ 8 (fun i => nI (gs i).2.2.1)) := by rw [efn94]; exact (hm_un (hm_ne h4 hm1_ (fun q => by cases q))).trans h4
        have h99 : fn94 ((r 3)) = some (eI Γ 8 (fun i => nI (gs i).1)) := by rw [efn94]; exact (hm_un (hm_ne h5 hm1_ (fun q => by cases q))).trans h5
        have h100 : fn94 ((r 4)) = some (eI Γ 8 (fun i => (gs i).2.2.2.1)) := by rw [efn94]; exact (hm_un (hm_ne h6 hm1_ (fun q => by cases q))).trans h6
        have h101 : fn94 ((r 5)) = some (eI Γ 8 (fun i => (gs i).2.2.2.2.1)) := by rw [efn94]; exact (hm_un (hm_ne h7 hm1_ (fun q => by cases q))).trans h7
        have h102 : fn94 ((r 6)) = some (eI Γ 8 (fun i => (gs i).2.2.2.2.2.1)) := by rw [efn94]; exact (hm_un (hm_ne h8 hm1_ (fun q => by cases q))).trans h8
        have h103 : fn94 ((r 7)) = some (eI Γ 8 (fun i => (gs i).2.2.2.2.2.2.1)) := by rw [efn94]; exact (hm_un (hm_ne h9 hm1_ (fun q => by cases q))).trans h9
        have h104 : fn94 ((r 8)) = some (eI Γ 8 (fun i => (gs i).2.2.2.2.2.2.2.1)) := by rw [efn94]; exact (hm_un (hm_ne h10 hm1_ (fun q => by cases q))).trans h10
        have h105 : fn94 ((r 9)) = some (eZ Γ 8 (fun i => bI (gs i).2.2.2.2.2.2.2.2)) := by rw [efn94]; exact (hm_un (hm_ne h11 hm1_ (fun q => by cases q))).trans h11
        have h106 : fn94 ((r 10)) = some (eJ Γ 60 (fun i => b4 (ts i).2.1)) := by rw [efn94]; exact (hm_un (hm_ne h12 hm1_ (fun q => by cases q))).trans h12
        have h107 : fn94 ((r 11)) = some (eI Γ 60 (fun i => nI (ts i).2.2.1)) := by rw [efn94]; exact (hm_un (hm_ne h13 hm1_ (fun q => by cases q))).trans h13
        have h108 : fn94 ((r 12)) = some (eI Γ 60 (fun i => nI (ts i).1)) := by rw [efn94]; exact (hm_un (hm_ne h14 hm1_ (fun q => by cases q))).trans h14
        have h109 : fn94 ((r 13)) = some (eI Γ 60 (fun i => (ts i).2.2.2)) := by rw [efn94]; exact (hm_un (hm_ne h15 hm1_ (fun q => by cases q))).trans h15
        have h110 : fn94 ((r 14)) = some (eJ Γ 64 (fun j => (K j).1)) := by rw [efn94]; exact (hm_un (hm_ne h16 hm1_ (fun q => by cases q))).trans h16
        have h111 : fn94 ((r 15)) = some (eI Γ 64 (fun j => (K j).2.1)) := by rw [efn94]; exact (hm_un (hm_ne h17 hm1_ (fun q => by cases q))).trans h17
        have h112 : fn94 ((r 16)) = some (eI Γ 64 (fun j => (K j).2.2.1)) := by rw [efn94]; exact (hm_un (hm_ne h18 hm1_ (fun q => by cases q))).trans h18
        have h113 : fn94 ((r 17)) = some (eI Γ 64 (fun j => (K j).2.2.2.1)) := by rw [efn94]; exact (hm_un (hm_ne h19 hm1_ (fun q => by cases q))).trans h19
        have h114 : fn94 ((r 18)) = some (eI Γ 64 (fun j => (K j).2.2.2.2.1)) := by rw [efn94]; exact (hm_un (hm_ne h20 hm1_ (fun q => by cases q))).trans h20
        have h115 : fn94 ((r 19)) = some (eI Γ 64 (fun j => (K j).2.2.2.2.2.1)) := by rw [efn94]; exact (hm_un (hm_ne h21 hm1_ (fun q => by cases q))).trans h21
        have h116 : fn94 ((r 20)) = some (eI Γ 64 (fun j => (K j).2.2.2.2.2.2)) := by rw [efn94]; exact (hm_un (hm_ne h22 hm1_ (fun q => by cases q))).trans h22
        have h117 : fn94 ((r 21)) = some (eJ Γ 6 pb) := by rw [efn94]; exact (hm_un (hm_ne h23 hm1_ (fun q => by cases q))).trans h23
        have h118 : fn94 ((r 22)) = some (eI Γ 6 pz) := by rw [efn94]; exact (hm_un (hm_ne h24 hm1_ (fun q => by cases q))).trans h24
        have h119 : fn94 ((r 23)) = some (eI Γ 6 pd) := by rw [efn94]; exact (hm_un (hm_ne h25 hm1_ (fun q => by cases q))).trans h25
        have h120 : fn94 ((r 24)) = some (eI Γ 6 pn) := by rw [efn94]; exact (hm_un (hm_ne h26 hm1_ (fun q => by cases q))).trans h26
        have h121 : fn94 ((r 25)) = some (eI Γ 6 pe) := by rw [efn94]; exact (hm_un (hm_ne h27 hm1_ (fun q => by cases q))).trans h27
        have h122 : fn94 ((r 26)) = some (eI Γ 6 ph) := by rw [efn94]; exact (hm_un (hm_ne h28 hm1_ (fun q => by cases q))).trans h28
        have h123 : fn94 ((r 27)) = some (eI Γ 6 pg) := by rw [efn94]; exact (hm_un (hm_ne h29 hm1_ (fun q => by cases q))).trans h29
        refine lv_if_ne (tgt := 66) hx hb dX8_noHint_28 (by decide) (fun _ => ?_) (fun c124 => absurd c124 (by decide))
        refine lv_iconst (v := 1) hx hb dX8_noHint_66 (by decide) ?_
        refine lv_goto (tgt := 71) hx hb dX8_noHint_67 (by decide) ?_
        have hfr9 : hm_fr (mS m0 r) f fn94 := by
          rw [efn94, efn1]
          exact ((hm_fr.rf (S := mS m0 r)).up mS_0).up mS_0
        exact hm_zret hx hb hr rfl hlocks hS hH (⟨Or.inr ⟨by rw [hb1]; (try rw [hix]); rw [hb93]; exact (show (2 : Int32) ≠ 0 by decide), rfl, by rw [hb1]; (try rw [hix]); rw [hb93]; exact MW.mk hm95 ⟨⟨h110, h111, h112, h113, h114, h115, h116⟩, ⟨_, _, _, _, _, _, _, h117, h118, h119, h120, h121, h122, h123⟩, h96, ⟨h97, h98, h99, h100, h101, h102, h103, h104, h105⟩, h106, h107, h108, h109⟩⟩, hfr9.k⟩) (Nat.le_of_ble_eq_true rfl) (Nat.le_of_ble_eq_true rfl) dX8_noHint_71
      · refine lv_iconst (v := 1) hx hb dX8_noHint_19 (by decide) ?_
        refine lv_goto (tgt := 24) hx hb dX8_noHint_20 (by decide) ?_
        refine lv_iconst (v := 2) hx hb dX8_noHint_24 (by decide) ?_
        have hb125 : (inR v1 1 4) = true := (by unfold inR; rw [decide_eq_true (Int32.not_lt.mp c59), decide_eq_true (Int32.not_lt.mp c92)]; rfl)
        refine W.eq (g2 := F0 m 25 ls [.int 2, .int (bI (inR v1 1 4)), .ref m0]) (by rw [hb125]; rfl) ?_
        refine hm_callV (rest := []) (k := 1) q5_119 q5_121 q1_9 q5_122 q0_17 rfl nm_X8_no rfl hx hb hml hown hts hK hO hS hH hl.1 hm1_ (c_X8_no Γ l m0 r 0 (nI np) (nI ng) (nI nt) (nI kp) (nI rr) ck lim dz gd hih mih fh msh msm mso sp rf (inR v1 1 4) 2 fn1 hm1_) ⟨Nat.le_of_ble_eq_true rfl, Nat.le_of_ble_eq_true rfl⟩ ⟨Nat.le_of_ble_eq_true rfl, Nat.le_of_ble_eq_true rfl⟩ rfl (Nat.le_of_ble_eq_true rfl) dX8_noHint_25 (fun v_ fn126 H locs hp_ hH hS => ?_)
        obtain ⟨rfl, efn126⟩ := hp_
        rw [hb125] at efn126
        refine W.eq (g2 := F0 m 28 ls [.int 0]) (by rw [hb125]; rfl) ?_
        have hm127 : fn126 m0 = some (eM r 0 (nI np) (nI ng) (nI nt) (nI kp) (nI rr) ck lim dz gd hih mih fh msh msm mso sp rf) := by rw [efn126]; exact hm_us
        have h128 : fn126 ((r 0)) = some (eI Γ 4 mon) := by rw [efn126]; exact (hm_un (hm_ne h2 hm1_ (fun q => by cases q))).trans h2
        have h129 : fn126 ((r 1)) = some (eJ Γ 8 (fun i => b4 (gs i).2.1)) := by rw [efn126]; exact (hm_un (hm_ne h3 hm1_ (fun q => by cases q))).trans h3
        have h130 : fn126 ((r 2)) = some (eI Γ 8 (fun i => nI (gs i).2.2.1)) := by rw [efn126]; exact (hm_un (hm_ne h4 hm1_ (fun q => by cases q))).trans h4
        have h131 : fn126 ((r 3)) = some (eI Γ 8 (fun i => nI (gs i).1)) := by rw [efn126]; exact (hm_un (hm_ne h5 hm1_ (fun q => by cases q))).trans h5
        have h132 : fn126 ((r 4)) = some (eI Γ 8 (fun i => (gs i).2.2.2.1)) := by rw [efn126]; exact (hm_un (hm_ne h6 hm1_ (fun q => by cases q))).trans h6
        have h133 : fn126 ((r 5)) = some (eI Γ 8 (fun i => (gs i).2.2.2.2.1)) := by rw [efn126]; exact (hm_un (hm_ne h7 hm1_ (fun q => by cases q))).trans h7
        have h134 : fn126 ((r 6)) = some (eI Γ 8 (fun i => (gs i).2.2.2.2.2.1)) := by rw [efn126]; exact (hm_un (hm_ne h8 hm1_ (fun q => by cases q))).trans h8
        have h135 : fn126 ((r 7)) = some (eI Γ 8 (fun i => (gs i).2.2.2.2.2.2.1)) := by rw [efn126]; exact (hm_un (hm_ne h9 hm1_ (fun q => by cases q))).trans h9
        have h136 : fn126 ((r 8)) = some (eI Γ 8 (fun i => (gs i).2.2.2.2.2.2.2.1)) := by rw [efn126]; exact (hm_un (hm_ne h10 hm1_ (fun q => by cases q))).trans h10
        have h137 : fn126 ((r 9)) = some (eZ Γ 8 (fun i => bI (gs i).2.2.2.2.2.2.2.2)) := by rw [efn126]; exact (hm_un (hm_ne h11 hm1_ (fun q => by cases q))).trans h11
        have h138 : fn126 ((r 10)) = some (eJ Γ 60 (fun i => b4 (ts i).2.1)) := by rw [efn126]; exact (hm_un (hm_ne h12 hm1_ (fun q => by cases q))).trans h12
        have h139 : fn126 ((r 11)) = some (eI Γ 60 (fun i => nI (ts i).2.2.1)) := by rw [efn126]; exact (hm_un (hm_ne h13 hm1_ (fun q => by cases q))).trans h13
        have h140 : fn126 ((r 12)) = some (eI Γ 60 (fun i => nI (ts i).1)) := by rw [efn126]; exact (hm_un (hm_ne h14 hm1_ (fun q => by cases q))).trans h14
        have h141 : fn126 ((r 13)) = some (eI Γ 60 (fun i => (ts i).2.2.2)) := by rw [efn126]; exact (hm_un (hm_ne h15 hm1_ (fun q => by cases q))).trans h15
        have h142 : fn126 ((r 14)) = some (eJ Γ 64 (fun j => (K j).1)) := by rw [efn126]; exact (hm_un (hm_ne h16 hm1_ (fun q => by cases q))).trans h16
        have h143 : fn126 ((r 15)) = some (eI Γ 64 (fun j => (K j).2.1)) := by rw [efn126]; exact (hm_un (hm_ne h17 hm1_ (fun q => by cases q))).trans h17
        have h144 : fn126 ((r 16)) = some (eI Γ 64 (fun j => (K j).2.2.1)) := by rw [efn126]; exact (hm_un (hm_ne h18 hm1_ (fun q => by cases q))).trans h18
        have h145 : fn126 ((r 17)) = some (eI Γ 64 (fun j => (K j).2.2.2.1)) := by rw [efn126]; exact (hm_un (hm_ne h19 hm1_ (fun q => by cases q))).trans h19
        have h146 : fn126 ((r 18)) = some (eI Γ 64 (fun j => (K j).2.2.2.2.1)) := by rw [efn126]; exact (hm_un (hm_ne h20 hm1_ (fun q => by cases q))).trans h20
        have h147 : fn126 ((r 19)) = some (eI Γ 64 (fun j => (K j).2.2.2.2.2.1)) := by rw [efn126]; exact (hm_un (hm_ne h21 hm1_ (fun q => by cases q))).trans h21
        have h148 : fn126 ((r 20)) = some (eI Γ 64 (fun j => (K j).2.2.2.2.2.2)) := by rw [efn126]; exact (hm_un (hm_ne h22 hm1_ (fun q => by cases q))).trans h22
        have h149 : fn126 ((r 21)) = some (eJ Γ 6 pb) := by rw [efn126]; exact (hm_un (hm_ne h23 hm1_ (fun q => by cases q))).trans h23
        have h150 : fn126 ((r 22)) = some (eI Γ 6 pz) := by rw [efn126]; exact (hm_un (hm_ne h24 hm1_ (fun q => by cases q))).trans h24
        have h151 : fn126 ((r 23)) = some (eI Γ 6 pd) := by rw [efn126]; exact (hm_un (hm_ne h25 hm1_ (fun q => by cases q))).trans h25
        have h152 : fn126 ((r 24)) = some (eI Γ 6 pn) := by rw [efn126]; exact (hm_un (hm_ne h26 hm1_ (fun q => by cases q))).trans h26
        have h153 : fn126 ((r 25)) = some (eI Γ 6 pe) := by rw [efn126]; exact (hm_un (hm_ne h27 hm1_ (fun q => by cases q))).trans h27
        have h154 : fn126 ((r 26)) = some (eI Γ 6 ph) := by rw [efn126]; exact (hm_un (hm_ne h28 hm1_ (fun q => by cases q))).trans h28
        have h155 : fn126 ((r 27)) = some (eI Γ 6 pg) := by rw [efn126]; exact (hm_un (hm_ne h29 hm1_ (fun q => by cases q))).trans h29
        refine lv_if_ne (tgt := 66) hx hb dX8_noHint_28 (by decide) (fun c156 => absurd (by decide) c156) (fun _ => ?_)
        refine lv_aload_n hx hb dX8_noHint_31 rfl (lv_at hl 0 rfl) ?_
        refine lv_aload_n hx hb dX8_noHint_32 rfl (lv_at hl 0 rfl) ?_
        refine gf_X8_38 hx hb hts hown hK hH hm127 rfl dX8_noHint_33 ?_
        refine lv_iload_n hx hb dX8_noHint_36 rfl (lv_at hl 1 rfl) ?_
        refine hm_zald hx hb hK hH h137 (vp_in_nI hi8 (by decide)) dX8_noHint_37 ?_
        refine lv_topi (fun v157 ev157 => ?_)
        replace ev157 : v157 = bI (gs i).2.2.2.2.2.2.2.2 := ev157.trans (by show bI (gs (nI i).toNatClampNeg).2.2.2.2.2.2.2.2 = _; rw [nI_clamp (n := i) (by omega)])
        subst ev157
        refine lv_if_ne (tgt := 58) hx hb dX8_noHint_38 (by decide) (fun c158 => ?_) (fun c158 => ?_)
        · refine lv_iconst (v := 0) hx hb dX8_noHint_58 (by decide) ?_
          refine lv_iconst (v := 3) hx hb dX8_noHint_59 (by decide) ?_
          have hb159 : (!(gs i).2.2.2.2.2.2.2.2 && !ovN (gs i).2.1) = false := (by rw [bI_n.mp c158]; rfl)
          refine W.eq (g2 := F0 m 60 ls [.int 3, .int (bI (!(gs i).2.2.2.2.2.2.2.2 && !ovN (gs i).2.1)), .ref m0]) (by rw [hb159]; rfl) ?_
          refine hm_callV (rest := []) (k := 1) q5_119 q5_121 q1_9 q5_122 q0_17 rfl nm_X8_no rfl hx hb hml hown hts hK hO hS hH hl.1 hm127 (c_X8_no Γ l m0 r 0 (nI np) (nI ng) (nI nt) (nI kp) (nI rr) ck lim dz gd hih mih fh msh msm mso sp rf (!(gs i).2.2.2.2.2.2.2.2 && !ovN (gs i).2.1) 3 fn126 hm127) ⟨Nat.le_of_ble_eq_true rfl, Nat.le_of_ble_eq_true rfl⟩ ⟨Nat.le_of_ble_eq_true rfl, Nat.le_of_ble_eq_true rfl⟩ rfl (Nat.le_of_ble_eq_true rfl) dX8_noHint_60 (fun v_ fn160 H locs hp_ hH hS => ?_)
          obtain ⟨rfl, efn160⟩ := hp_
          rw [hb159] at efn160
          refine W.eq (g2 := F0 m 63 ls [.int 1]) (by rw [hb159]; rfl) ?_
          have hm161 : fn160 m0 = some (eM r 3 (nI np) (nI ng) (nI nt) (nI kp) (nI rr) ck lim dz gd hih mih fh msh msm mso sp rf) := by rw [efn160]; exact hm_us
          have h162 : fn160 ((r 0)) = some (eI Γ 4 mon) := by rw [efn160]; exact (hm_un (hm_ne h128 hm127 (fun q => by cases q))).trans h128
          have h163 : fn160 ((r 1)) = some (eJ Γ 8 (fun i => b4 (gs i).2.1)) := by rw [efn160]; exact (hm_un (hm_ne h129 hm127 (fun q => by cases q))).trans h129
          have h164 : fn160 ((r 2)) = some (eI Γ 8 (fun i => nI (gs i).2.2.1)) := by rw [efn160]; exact (hm_un (hm_ne h130 hm127 (fun q => by cases q))).trans h130
          have h165 : fn160 ((r 3)) = some (eI Γ 8 (fun i => nI (gs i).1)) := by rw [efn160]; exact (hm_un (hm_ne h131 hm127 (fun q => by cases q))).trans h131
          have h166 : fn160 ((r 4)) = some (eI Γ 8 (fun i => (gs i).2.2.2.1)) := by rw [efn160]; exact (hm_un (hm_ne h132 hm127 (fun q => by cases q))).trans h132
          have h167 : fn160 ((r 5)) = some (eI Γ 8 (fun i => (gs i).2.2.2.2.1)) := by rw [efn160]; exact (hm_un (hm_ne h133 hm127 (fun q => by cases q))).trans h133
          have h168 : fn160 ((r 6)) = some (eI Γ 8 (fun i => (gs i).2.2.2.2.2.1)) := by rw [efn160]; exact (hm_un (hm_ne h134 hm127 (fun q => by cases q))).trans h134
          have h169 : fn160 ((r 7)) = some (eI Γ 8 (fun i => (gs i).2.2.2.2.2.2.1)) := by rw [efn160]; exact (hm_un (hm_ne h135 hm127 (fun q => by cases q))).trans h135
          have h170 : fn160 ((r 8)) = some (eI Γ 8 (fun i => (gs i).2.2.2.2.2.2.2.1)) := by rw [efn160]; exact (hm_un (hm_ne h136 hm127 (fun q => by cases q))).trans h136
          have h171 : fn160 ((r 9)) = some (eZ Γ 8 (fun i => bI (gs i).2.2.2.2.2.2.2.2)) := by rw [efn160]; exact (hm_un (hm_ne h137 hm127 (fun q => by cases q))).trans h137
          have h172 : fn160 ((r 10)) = some (eJ Γ 60 (fun i => b4 (ts i).2.1)) := by rw [efn160]; exact (hm_un (hm_ne h138 hm127 (fun q => by cases q))).trans h138
          have h173 : fn160 ((r 11)) = some (eI Γ 60 (fun i => nI (ts i).2.2.1)) := by rw [efn160]; exact (hm_un (hm_ne h139 hm127 (fun q => by cases q))).trans h139
          have h174 : fn160 ((r 12)) = some (eI Γ 60 (fun i => nI (ts i).1)) := by rw [efn160]; exact (hm_un (hm_ne h140 hm127 (fun q => by cases q))).trans h140
          have h175 : fn160 ((r 13)) = some (eI Γ 60 (fun i => (ts i).2.2.2)) := by rw [efn160]; exact (hm_un (hm_ne h141 hm127 (fun q => by cases q))).trans h141
          have h176 : fn160 ((r 14)) = some (eJ Γ 64 (fun j => (K j).1)) := by rw [efn160]; exact (hm_un (hm_ne h142 hm127 (fun q => by cases q))).trans h142
          have h177 : fn160 ((r 15)) = some (eI Γ 64 (fun j => (K j).2.1)) := by rw [efn160]; exact (hm_un (hm_ne h143 hm127 (fun q => by cases q))).trans h143
          have h178 : fn160 ((r 16)) = some (eI Γ 64 (fun j => (K j).2.2.1)) := by rw [efn160]; exact (hm_un (hm_ne h144 hm127 (fun q => by cases q))).trans h144
          have h179 : fn160 ((r 17)) = some (eI Γ 64 (fun j => (K j).2.2.2.1)) := by rw [efn160]; exact (hm_un (hm_ne h145 hm127 (fun q => by cases q))).trans h145
          have h180 : fn160 ((r 18)) = some (eI Γ 64 (fun j => (K j).2.2.2.2.1)) := by rw [efn160]; exact (hm_un (hm_ne h146 hm127 (fun q => by cases q))).trans h146
          have h181 : fn160 ((r 19)) = some (eI Γ 64 (fun j => (K j).2.2.2.2.2.1)) := by rw [efn160]; exact (hm_un (hm_ne h147 hm127 (fun q => by cases q))).trans h147
          have h182 : fn160 ((r 20)) = some (eI Γ 64 (fun j => (K j).2.2.2.2.2.2)) := by rw [efn160]; exact (hm_un (hm_ne h148 hm127 (fun q => by cases q))).trans h148
          have h183 : fn160 ((r 21)) = some (eJ Γ 6 pb) := by rw [efn160]; exact (hm_un (hm_ne h149 hm127 (fun q => by cases q))).trans h149
          have h184 : fn160 ((r 22)) = some (eI Γ 6 pz) := by rw [efn160]; exact (hm_un (hm_ne h150 hm127 (fun q => by cases q))).trans h150
          have h185 : fn160 ((r 23)) = some (eI Γ 6 pd) := by rw [efn160]; exact (hm_un (hm_ne h151 hm127 (fun q => by cases q))).trans h151
          have h186 : fn160 ((r 24)) = some (eI Γ 6 pn) := by rw [efn160]; exact (hm_un (hm_ne h152 hm127 (fun q => by cases q))).trans h152
          have h187 : fn160 ((r 25)) = some (eI Γ 6 pe) := by rw [efn160]; exact (hm_un (hm_ne h153 hm127 (fun q => by cases q))).trans h153
          have h188 : fn160 ((r 26)) = some (eI Γ 6 ph) := by rw [efn160]; exact (hm_un (hm_ne h154 hm127 (fun q => by cases q))).trans h154
          have h189 : fn160 ((r 27)) = some (eI Γ 6 pg) := by rw [efn160]; exact (hm_un (hm_ne h155 hm127 (fun q => by cases q))).trans h155
          refine lv_if_eq (tgt := 70) hx hb dX8_noHint_63 (by decide) (fun c190 => absurd c190 (by decide)) (fun _ => ?_)
          refine lv_iconst (v := 1) hx hb dX8_noHint_66 (by decide) ?_
          refine lv_goto (tgt := 71) hx hb dX8_noHint_67 (by decide) ?_
          have hfr9 : hm_fr (mS m0 r) f fn160 := by
            rw [efn160, efn126, efn1]
            exact (((hm_fr.rf (S := mS m0 r)).up mS_0).up mS_0).up mS_0
          exact hm_zret hx hb hr rfl hlocks hS hH (⟨Or.inr ⟨by rw [hb1]; (try rw [hix]); rw [hb125]; rw [hb159]; exact (show (3 : Int32) ≠ 0 by decide), rfl, by rw [hb1]; (try rw [hix]); rw [hb125]; rw [hb159]; exact MW.mk hm161 ⟨⟨h176, h177, h178, h179, h180, h181, h182⟩, ⟨_, _, _, _, _, _, _, h183, h184, h185, h186, h187, h188, h189⟩, h162, ⟨h163, h164, h165, h166, h167, h168, h169, h170, h171⟩, h172, h173, h174, h175⟩⟩, hfr9.k⟩) (Nat.le_of_ble_eq_true rfl) (Nat.le_of_ble_eq_true rfl) dX8_noHint_71
        · refine lv_aload_n hx hb dX8_noHint_41 rfl (lv_at hl 0 rfl) ?_
          refine lv_aload_n hx hb dX8_noHint_42 rfl (lv_at hl 0 rfl) ?_
          refine gf_X8_13 hx hb hts hown hK hH hm127 rfl dX8_noHint_43 ?_
          refine lv_iload_n hx hb dX8_noHint_46 rfl (lv_at hl 1 rfl) ?_
          refine hm_lald hx hb hK hH h129 (vp_in_nI hi8 (by decide)) dX8_noHint_47 ?_
          refine lv_topl (fun v191 ev191 => ?_)
          replace ev191 : v191 = b4 (gs i).2.1 := ev191.trans (by show b4 (gs (nI i).toNatClampNeg).2.1 = _; rw [nI_clamp (n := i) (by omega)])
          subst ev191
          refine hm_callV (rest := [.ref m0]) (k := 4) q5_185 q5_187 q1_9 q5_188 q0_23 rfl nm_X8_over rfl hx hb hml hown hts hK hO hS hH hl.1 hm127 (c_X8_over Γ l m0 r 0 (nI np) (nI ng) (nI nt) (nI kp) (nI rr) ck lim dz gd hih mih fh msh msm mso sp rf (gs i).2.1 fn126 hm127 ht15) ⟨Nat.le_of_ble_eq_true rfl, Nat.le_of_ble_eq_true rfl⟩ ⟨Nat.le_of_ble_eq_true rfl, Nat.le_of_ble_eq_true rfl⟩ rfl (Nat.le_of_ble_eq_true rfl) dX8_noHint_48 (fun v_ fn192 H locs hp_ hH hS => ?_)
          obtain ⟨rfl, y_, efn192⟩ := hp_
          refine W.eq (g2 := F0 m 51 ls [.int (bI (ovN (gs i).2.1)), .ref m0]) rfl ?_
          have hmfn192 : fn192 m0 = some (eM r 0 (nI np) (nI ng) (nI nt) (nI kp) (nI rr) ck lim dz y_ hih mih fh msh msm mso sp rf) := by rw [efn192]; exact hm_us
          have h193 : fn192 ((r 0)) = some (eI Γ 4 mon) := by rw [efn192]; exact (hm_un (hm_ne h128 hm127 (fun q => by cases q))).trans h128
          have h194 : fn192 ((r 1)) = some (eJ Γ 8 (fun i => b4 (gs i).2.1)) := by rw [efn192]; exact (hm_un (hm_ne h129 hm127 (fun q => by cases q))).trans h129
          have h195 : fn192 ((r 2)) = some (eI Γ 8 (fun i => nI (gs i).2.2.1)) := by rw [efn192]; exact (hm_un (hm_ne h130 hm127 (fun q => by cases q))).trans h130
          have h196 : fn192 ((r 3)) = some (eI Γ 8 (fun i => nI (gs i).1)) := by rw [efn192]; exact (hm_un (hm_ne h131 hm127 (fun q => by cases q))).trans h131
          have h197 : fn192 ((r 4)) = some (eI Γ 8 (fun i => (gs i).2.2.2.1)) := by rw [efn192]; exact (hm_un (hm_ne h132 hm127 (fun q => by cases q))).trans h132
          have h198 : fn192 ((r 5)) = some (eI Γ 8 (fun i => (gs i).2.2.2.2.1)) := by rw [efn192]; exact (hm_un (hm_ne h133 hm127 (fun q => by cases q))).trans h133
          have h199 : fn192 ((r 6)) = some (eI Γ 8 (fun i => (gs i).2.2.2.2.2.1)) := by rw [efn192]; exact (hm_un (hm_ne h134 hm127 (fun q => by cases q))).trans h134
          have h200 : fn192 ((r 7)) = some (eI Γ 8 (fun i => (gs i).2.2.2.2.2.2.1)) := by rw [efn192]; exact (hm_un (hm_ne h135 hm127 (fun q => by cases q))).trans h135
          have h201 : fn192 ((r 8)) = some (eI Γ 8 (fun i => (gs i).2.2.2.2.2.2.2.1)) := by rw [efn192]; exact (hm_un (hm_ne h136 hm127 (fun q => by cases q))).trans h136
          have h202 : fn192 ((r 9)) = some (eZ Γ 8 (fun i => bI (gs i).2.2.2.2.2.2.2.2)) := by rw [efn192]; exact (hm_un (hm_ne h137 hm127 (fun q => by cases q))).trans h137
          have h203 : fn192 ((r 10)) = some (eJ Γ 60 (fun i => b4 (ts i).2.1)) := by rw [efn192]; exact (hm_un (hm_ne h138 hm127 (fun q => by cases q))).trans h138
          have h204 : fn192 ((r 11)) = some (eI Γ 60 (fun i => nI (ts i).2.2.1)) := by rw [efn192]; exact (hm_un (hm_ne h139 hm127 (fun q => by cases q))).trans h139
          have h205 : fn192 ((r 12)) = some (eI Γ 60 (fun i => nI (ts i).1)) := by rw [efn192]; exact (hm_un (hm_ne h140 hm127 (fun q => by cases q))).trans h140
          have h206 : fn192 ((r 13)) = some (eI Γ 60 (fun i => (ts i).2.2.2)) := by rw [efn192]; exact (hm_un (hm_ne h141 hm127 (fun q => by cases q))).trans h141
          have h207 : fn192 ((r 14)) = some (eJ Γ 64 (fun j => (K j).1)) := by rw [efn192]; exact (hm_un (hm_ne h142 hm127 (fun q => by cases q))).trans h142
          have h208 : fn192 ((r 15)) = some (eI Γ 64 (fun j => (K j).2.1)) := by rw [efn192]; exact (hm_un (hm_ne h143 hm127 (fun q => by cases q))).trans h143
          have h209 : fn192 ((r 16)) = some (eI Γ 64 (fun j => (K j).2.2.1)) := by rw [efn192]; exact (hm_un (hm_ne h144 hm127 (fun q => by cases q))).trans h144
          have h210 : fn192 ((r 17)) = some (eI Γ 64 (fun j => (K j).2.2.2.1)) := by rw [efn192]; exact (hm_un (hm_ne h145 hm127 (fun q => by cases q))).trans h145
          have h211 : fn192 ((r 18)) = some (eI Γ 64 (fun j => (K j).2.2.2.2.1)) := by rw [efn192]; exact (hm_un (hm_ne h146 hm127 (fun q => by cases q))).trans h146
          have h212 : fn192 ((r 19)) = some (eI Γ 64 (fun j => (K j).2.2.2.2.2.1)) := by rw [efn192]; exact (hm_un (hm_ne h147 hm127 (fun q => by cases q))).trans h147
          have h213 : fn192 ((r 20)) = some (eI Γ 64 (fun j => (K j).2.2.2.2.2.2)) := by rw [efn192]; exact (hm_un (hm_ne h148 hm127 (fun q => by cases q))).trans h148
          have h214 : fn192 ((r 21)) = some (eJ Γ 6 pb) := by rw [efn192]; exact (hm_un (hm_ne h149 hm127 (fun q => by cases q))).trans h149
          have h215 : fn192 ((r 22)) = some (eI Γ 6 pz) := by rw [efn192]; exact (hm_un (hm_ne h150 hm127 (fun q => by cases q))).trans h150
          have h216 : fn192 ((r 23)) = some (eI Γ 6 pd) := by rw [efn192]; exact (hm_un (hm_ne h151 hm127 (fun q => by cases q))).trans h151
          have h217 : fn192 ((r 24)) = some (eI Γ 6 pn) := by rw [efn192]; exact (hm_un (hm_ne h152 hm127 (fun q => by cases q))).trans h152
          have h218 : fn192 ((r 25)) = some (eI Γ 6 pe) := by rw [efn192]; exact (hm_un (hm_ne h153 hm127 (fun q => by cases q))).trans h153
          have h219 : fn192 ((r 26)) = some (eI Γ 6 ph) := by rw [efn192]; exact (hm_un (hm_ne h154 hm127 (fun q => by cases q))).trans h154
          have h220 : fn192 ((r 27)) = some (eI Γ 6 pg) := by rw [efn192]; exact (hm_un (hm_ne h155 hm127 (fun q => by cases q))).trans h155
          refine lv_if_ne (tgt := 58) hx hb dX8_noHint_51 (by decide) (fun c221 => ?_) (fun c221 => ?_)
          · refine lv_iconst (v := 0) hx hb dX8_noHint_58 (by decide) ?_
            refine lv_iconst (v := 3) hx hb dX8_noHint_59 (by decide) ?_
            have hb222 : (!(gs i).2.2.2.2.2.2.2.2 && !ovN (gs i).2.1) = false := (by rw [bI_n.mp c221, Bool.not_true, Bool.and_false])
            refine W.eq (g2 := F0 m 60 ls [.int 3, .int (bI (!(gs i).2.2.2.2.2.2.2.2 && !ovN (gs i).2.1)), .ref m0]) (by rw [hb222]; rfl) ?_
            refine hm_callV (rest := []) (k := 1) q5_119 q5_121 q1_9 q5_122 q0_17 rfl nm_X8_no rfl hx hb hml hown hts hK hO hS hH hl.1 hmfn192 (c_X8_no Γ l m0 r 0 (nI np) (nI ng) (nI nt) (nI kp) (nI rr) ck lim dz y_ hih mih fh msh msm mso sp rf (!(gs i).2.2.2.2.2.2.2.2 && !ovN (gs i).2.1) 3 fn192 hmfn192) ⟨Nat.le_of_ble_eq_true rfl, Nat.le_of_ble_eq_true rfl⟩ ⟨Nat.le_of_ble_eq_true rfl, Nat.le_of_ble_eq_true rfl⟩ rfl (Nat.le_of_ble_eq_true rfl) dX8_noHint_60 (fun v_ fn223 H locs hp_ hH hS => ?_)
            obtain ⟨rfl, efn223⟩ := hp_
            rw [hb222] at efn223
            refine W.eq (g2 := F0 m 63 ls [.int 1]) (by rw [hb222]; rfl) ?_
            have hm224 : fn223 m0 = some (eM r 3 (nI np) (nI ng) (nI nt) (nI kp) (nI rr) ck lim dz y_ hih mih fh msh msm mso sp rf) := by rw [efn223]; exact hm_us
            have h225 : fn223 ((r 0)) = some (eI Γ 4 mon) := by rw [efn223]; exact (hm_un (hm_ne h193 hmfn192 (fun q => by cases q))).trans h193
            have h226 : fn223 ((r 1)) = some (eJ Γ 8 (fun i => b4 (gs i).2.1)) := by rw [efn223]; exact (hm_un (hm_ne h194 hmfn192 (fun q => by cases q))).trans h194
            have h227 : fn223 ((r 2)) = some (eI Γ 8 (fun i => nI (gs i).2.2.1)) := by rw [efn223]; exact (hm_un (hm_ne h195 hmfn192 (fun q => by cases q))).trans h195
            have h228 : fn223 ((r 3)) = some (eI Γ 8 (fun i => nI (gs i).1)) := by rw [efn223]; exact (hm_un (hm_ne h196 hmfn192 (fun q => by cases q))).trans h196
            have h229 : fn223 ((r 4)) = some (eI Γ 8 (fun i => (gs i).2.2.2.1)) := by rw [efn223]; exact (hm_un (hm_ne h197 hmfn192 (fun q => by cases q))).trans h197
            have h230 : fn223 ((r 5)) = some (eI Γ 8 (fun i => (gs i).2.2.2.2.1)) := by rw [efn223]; exact (hm_un (hm_ne h198 hmfn192 (fun q => by cases q))).trans h198
            have h231 : fn223 ((r 6)) = some (eI Γ 8 (fun i => (gs i).2.2.2.2.2.1)) := by rw [efn223]; exact (hm_un (hm_ne h199 hmfn192 (fun q => by cases q))).trans h199
            have h232 : fn223 ((r 7)) = some (eI Γ 8 (fun i => (gs i).2.2.2.2.2.2.1)) := by rw [efn223]; exact (hm_un (hm_ne h200 hmfn192 (fun q => by cases q))).trans h200
            have h233 : fn223 ((r 8)) = some (eI Γ 8 (fun i => (gs i).2.2.2.2.2.2.2.1)) := by rw [efn223]; exact (hm_un (hm_ne h201 hmfn192 (fun q => by cases q))).trans h201
            have h234 : fn223 ((r 9)) = some (eZ Γ 8 (fun i => bI (gs i).2.2.2.2.2.2.2.2)) := by rw [efn223]; exact (hm_un (hm_ne h202 hmfn192 (fun q => by cases q))).trans h202
            have h235 : fn223 ((r 10)) = some (eJ Γ 60 (fun i => b4 (ts i).2.1)) := by rw [efn223]; exact (hm_un (hm_ne h203 hmfn192 (fun q => by cases q))).trans h203
            have h236 : fn223 ((r 11)) = some (eI Γ 60 (fun i => nI (ts i).2.2.1)) := by rw [efn223]; exact (hm_un (hm_ne h204 hmfn192 (fun q => by cases q))).trans h204
            have h237 : fn223 ((r 12)) = some (eI Γ 60 (fun i => nI (ts i).1)) := by rw [efn223]; exact (hm_un (hm_ne h205 hmfn192 (fun q => by cases q))).trans h205
            have h238 : fn223 ((r 13)) = some (eI Γ 60 (fun i => (ts i).2.2.2)) := by rw [efn223]; exact (hm_un (hm_ne h206 hmfn192 (fun q => by cases q))).trans h206
            have h239 : fn223 ((r 14)) = some (eJ Γ 64 (fun j => (K j).1)) := by rw [efn223]; exact (hm_un (hm_ne h207 hmfn192 (fun q => by cases q))).trans h207
            have h240 : fn223 ((r 15)) = some (eI Γ 64 (fun j => (K j).2.1)) := by rw [efn223]; exact (hm_un (hm_ne h208 hmfn192 (fun q => by cases q))).trans h208
            have h241 : fn223 ((r 16)) = some (eI Γ 64 (fun j => (K j).2.2.1)) := by rw [efn223]; exact (hm_un (hm_ne h209 hmfn192 (fun q => by cases q))).trans h209
            have h242 : fn223 ((r 17)) = some (eI Γ 64 (fun j => (K j).2.2.2.1)) := by rw [efn223]; exact (hm_un (hm_ne h210 hmfn192 (fun q => by cases q))).trans h210
            have h243 : fn223 ((r 18)) = some (eI Γ 64 (fun j => (K j).2.2.2.2.1)) := by rw [efn223]; exact (hm_un (hm_ne h211 hmfn192 (fun q => by cases q))).trans h211
            have h244 : fn223 ((r 19)) = some (eI Γ 64 (fun j => (K j).2.2.2.2.2.1)) := by rw [efn223]; exact (hm_un (hm_ne h212 hmfn192 (fun q => by cases q))).trans h212
            have h245 : fn223 ((r 20)) = some (eI Γ 64 (fun j => (K j).2.2.2.2.2.2)) := by rw [efn223]; exact (hm_un (hm_ne h213 hmfn192 (fun q => by cases q))).trans h213
            have h246 : fn223 ((r 21)) = some (eJ Γ 6 pb) := by rw [efn223]; exact (hm_un (hm_ne h214 hmfn192 (fun q => by cases q))).trans h214
            have h247 : fn223 ((r 22)) = some (eI Γ 6 pz) := by rw [efn223]; exact (hm_un (hm_ne h215 hmfn192 (fun q => by cases q))).trans h215
            have h248 : fn223 ((r 23)) = some (eI Γ 6 pd) := by rw [efn223]; exact (hm_un (hm_ne h216 hmfn192 (fun q => by cases q))).trans h216
            have h249 : fn223 ((r 24)) = some (eI Γ 6 pn) := by rw [efn223]; exact (hm_un (hm_ne h217 hmfn192 (fun q => by cases q))).trans h217
            have h250 : fn223 ((r 25)) = some (eI Γ 6 pe) := by rw [efn223]; exact (hm_un (hm_ne h218 hmfn192 (fun q => by cases q))).trans h218
            have h251 : fn223 ((r 26)) = some (eI Γ 6 ph) := by rw [efn223]; exact (hm_un (hm_ne h219 hmfn192 (fun q => by cases q))).trans h219
            have h252 : fn223 ((r 27)) = some (eI Γ 6 pg) := by rw [efn223]; exact (hm_un (hm_ne h220 hmfn192 (fun q => by cases q))).trans h220
            refine lv_if_eq (tgt := 70) hx hb dX8_noHint_63 (by decide) (fun c253 => absurd c253 (by decide)) (fun _ => ?_)
            refine lv_iconst (v := 1) hx hb dX8_noHint_66 (by decide) ?_
            refine lv_goto (tgt := 71) hx hb dX8_noHint_67 (by decide) ?_
            have hfr9 : hm_fr (mS m0 r) f fn223 := by
              rw [efn223, efn192, efn126, efn1]
              exact ((((hm_fr.rf (S := mS m0 r)).up mS_0).up mS_0).up mS_0).up mS_0
            exact hm_zret hx hb hr rfl hlocks hS hH (⟨Or.inr ⟨by rw [hb1]; (try rw [hix]); rw [hb125]; rw [hb222]; exact (show (3 : Int32) ≠ 0 by decide), rfl, by rw [hb1]; (try rw [hix]); rw [hb125]; rw [hb222]; exact MW.mk hm224 ⟨⟨h239, h240, h241, h242, h243, h244, h245⟩, ⟨_, _, _, _, _, _, _, h246, h247, h248, h249, h250, h251, h252⟩, h225, ⟨h226, h227, h228, h229, h230, h231, h232, h233, h234⟩, h235, h236, h237, h238⟩⟩, hfr9.k⟩) (Nat.le_of_ble_eq_true rfl) (Nat.le_of_ble_eq_true rfl) dX8_noHint_71
          · refine lv_iconst (v := 1) hx hb dX8_noHint_54 (by decide) ?_
            refine lv_goto (tgt := 59) hx hb dX8_noHint_55 (by decide) ?_
            refine lv_iconst (v := 3) hx hb dX8_noHint_59 (by decide) ?_
            have hb254 : (!(gs i).2.2.2.2.2.2.2.2 && !ovN (gs i).2.1) = true := (by rw [bI_0.mp c158, bI_0.mp c221]; rfl)
            refine W.eq (g2 := F0 m 60 ls [.int 3, .int (bI (!(gs i).2.2.2.2.2.2.2.2 && !ovN (gs i).2.1)), .ref m0]) (by rw [hb254]; rfl) ?_
            refine hm_callV (rest := []) (k := 1) q5_119 q5_121 q1_9 q5_122 q0_17 rfl nm_X8_no rfl hx hb hml hown hts hK hO hS hH hl.1 hmfn192 (c_X8_no Γ l m0 r 0 (nI np) (nI ng) (nI nt) (nI kp) (nI rr) ck lim dz y_ hih mih fh msh msm mso sp rf (!(gs i).2.2.2.2.2.2.2.2 && !ovN (gs i).2.1) 3 fn192 hmfn192) ⟨Nat.le_of_ble_eq_true rfl, Nat.le_of_ble_eq_true rfl⟩ ⟨Nat.le_of_ble_eq_true rfl, Nat.le_of_ble_eq_true rfl⟩ rfl (Nat.le_of_ble_eq_true rfl) dX8_noHint_60 (fun v_ fn255 H locs hp_ hH hS => ?_)
            obtain ⟨rfl, efn255⟩ := hp_
            rw [hb254] at efn255
            refine W.eq (g2 := F0 m 63 ls [.int 0]) (by rw [hb254]; rfl) ?_
            have hm256 : fn255 m0 = some (eM r 0 (nI np) (nI ng) (nI nt) (nI kp) (nI rr) ck lim dz y_ hih mih fh msh msm mso sp rf) := by rw [efn255]; exact hm_us
            have h257 : fn255 ((r 0)) = some (eI Γ 4 mon) := by rw [efn255]; exact (hm_un (hm_ne h193 hmfn192 (fun q => by cases q))).trans h193
            have h258 : fn255 ((r 1)) = some (eJ Γ 8 (fun i => b4 (gs i).2.1)) := by rw [efn255]; exact (hm_un (hm_ne h194 hmfn192 (fun q => by cases q))).trans h194
            have h259 : fn255 ((r 2)) = some (eI Γ 8 (fun i => nI (gs i).2.2.1)) := by rw [efn255]; exact (hm_un (hm_ne h195 hmfn192 (fun q => by cases q))).trans h195
            have h260 : fn255 ((r 3)) = some (eI Γ 8 (fun i => nI (gs i).1)) := by rw [efn255]; exact (hm_un (hm_ne h196 hmfn192 (fun q => by cases q))).trans h196
            have h261 : fn255 ((r 4)) = some (eI Γ 8 (fun i => (gs i).2.2.2.1)) := by rw [efn255]; exact (hm_un (hm_ne h197 hmfn192 (fun q => by cases q))).trans h197
            have h262 : fn255 ((r 5)) = some (eI Γ 8 (fun i => (gs i).2.2.2.2.1)) := by rw [efn255]; exact (hm_un (hm_ne h198 hmfn192 (fun q => by cases q))).trans h198
            have h263 : fn255 ((r 6)) = some (eI Γ 8 (fun i => (gs i).2.2.2.2.2.1)) := by rw [efn255]; exact (hm_un (hm_ne h199 hmfn192 (fun q => by cases q))).trans h199
            have h264 : fn255 ((r 7)) = some (eI Γ 8 (fun i => (gs i).2.2.2.2.2.2.1)) := by rw [efn255]; exact (hm_un (hm_ne h200 hmfn192 (fun q => by cases q))).trans h200
            have h265 : fn255 ((r 8)) = some (eI Γ 8 (fun i => (gs i).2.2.2.2.2.2.2.1)) := by rw [efn255]; exact (hm_un (hm_ne h201 hmfn192 (fun q => by cases q))).trans h201
            have h266 : fn255 ((r 9)) = some (eZ Γ 8 (fun i => bI (gs i).2.2.2.2.2.2.2.2)) := by rw [efn255]; exact (hm_un (hm_ne h202 hmfn192 (fun q => by cases q))).trans h202
            have h267 : fn255 ((r 10)) = some (eJ Γ 60 (fun i => b4 (ts i).2.1)) := by rw [efn255]; exact (hm_un (hm_ne h203 hmfn192 (fun q => by cases q))).trans h203
            have h268 : fn255 ((r 11)) = some (eI Γ 60 (fun i => nI (ts i).2.2.1)) := by rw [efn255]; exact (hm_un (hm_ne h204 hmfn192 (fun q => by cases q))).trans h204
            have h269 : fn255 ((r 12)) = some (eI Γ 60 (fun i => nI (ts i).1)) := by rw [efn255]; exact (hm_un (hm_ne h205 hmfn192 (fun q => by cases q))).trans h205
            have h270 : fn255 ((r 13)) = some (eI Γ 60 (fun i => (ts i).2.2.2)) := by rw [efn255]; exact (hm_un (hm_ne h206 hmfn192 (fun q => by cases q))).trans h206
            have h271 : fn255 ((r 14)) = some (eJ Γ 64 (fun j => (K j).1)) := by rw [efn255]; exact (hm_un (hm_ne h207 hmfn192 (fun q => by cases q))).trans h207
            have h272 : fn255 ((r 15)) = some (eI Γ 64 (fun j => (K j).2.1)) := by rw [efn255]; exact (hm_un (hm_ne h208 hmfn192 (fun q => by cases q))).trans h208
            have h273 : fn255 ((r 16)) = some (eI Γ 64 (fun j => (K j).2.2.1)) := by rw [efn255]; exact (hm_un (hm_ne h209 hmfn192 (fun q => by cases q))).trans h209
            have h274 : fn255 ((r 17)) = some (eI Γ 64 (fun j => (K j).2.2.2.1)) := by rw [efn255]; exact (hm_un (hm_ne h210 hmfn192 (fun q => by cases q))).trans h210
            have h275 : fn255 ((r 18)) = some (eI Γ 64 (fun j => (K j).2.2.2.2.1)) := by rw [efn255]; exact (hm_un (hm_ne h211 hmfn192 (fun q => by cases q))).trans h211
            have h276 : fn255 ((r 19)) = some (eI Γ 64 (fun j => (K j).2.2.2.2.2.1)) := by rw [efn255]; exact (hm_un (hm_ne h212 hmfn192 (fun q => by cases q))).trans h212
            have h277 : fn255 ((r 20)) = some (eI Γ 64 (fun j => (K j).2.2.2.2.2.2)) := by rw [efn255]; exact (hm_un (hm_ne h213 hmfn192 (fun q => by cases q))).trans h213
            have h278 : fn255 ((r 21)) = some (eJ Γ 6 pb) := by rw [efn255]; exact (hm_un (hm_ne h214 hmfn192 (fun q => by cases q))).trans h214
            have h279 : fn255 ((r 22)) = some (eI Γ 6 pz) := by rw [efn255]; exact (hm_un (hm_ne h215 hmfn192 (fun q => by cases q))).trans h215
            have h280 : fn255 ((r 23)) = some (eI Γ 6 pd) := by rw [efn255]; exact (hm_un (hm_ne h216 hmfn192 (fun q => by cases q))).trans h216
            have h281 : fn255 ((r 24)) = some (eI Γ 6 pn) := by rw [efn255]; exact (hm_un (hm_ne h217 hmfn192 (fun q => by cases q))).trans h217
            have h282 : fn255 ((r 25)) = some (eI Γ 6 pe) := by rw [efn255]; exact (hm_un (hm_ne h218 hmfn192 (fun q => by cases q))).trans h218
            have h283 : fn255 ((r 26)) = some (eI Γ 6 ph) := by rw [efn255]; exact (hm_un (hm_ne h219 hmfn192 (fun q => by cases q))).trans h219
            have h284 : fn255 ((r 27)) = some (eI Γ 6 pg) := by rw [efn255]; exact (hm_un (hm_ne h220 hmfn192 (fun q => by cases q))).trans h220
            refine lv_if_eq (tgt := 70) hx hb dX8_noHint_63 (by decide) (fun _ => ?_) (fun c285 => absurd (by decide) c285)
            refine lv_iconst (v := 0) hx hb dX8_noHint_70 (by decide) ?_
            have hfr9 : hm_fr (mS m0 r) f fn255 := by
              rw [efn255, efn192, efn126, efn1]
              exact ((((hm_fr.rf (S := mS m0 r)).up mS_0).up mS_0).up mS_0).up mS_0
            exact hm_zret hx hb hr rfl hlocks hS hH (⟨Or.inl ⟨by rw [hb1]; (try rw [hix]); rw [hb125]; rw [hb254]; rfl, rfl, MW.mk hm256 ⟨⟨h271, h272, h273, h274, h275, h276, h277⟩, ⟨_, _, _, _, _, _, _, h278, h279, h280, h281, h282, h283, h284⟩, h257, ⟨h258, h259, h260, h261, h262, h263, h264, h265, h266⟩, h267, h268, h269, h270⟩⟩, hfr9.k⟩) (Nat.le_of_ble_eq_true rfl) (Nat.le_of_ble_eq_true rfl) dX8_noHint_71
  · rw [hb1] at efn1
    refine W.eq (g2 := F0 m 5 ls [.int 1]) (by rw [hb1]; rfl) ?_
    have hm1_ : fn1 m0 = some (eM r 1 (nI np) (nI ng) (nI nt) (nI kp) (nI rr) ck lim dz gd hih mih fh msh msm mso sp rf) := by rw [efn1]; exact hm_us
    have h30 : fn1 ((r 0)) = some (eI Γ 4 mon) := by rw [efn1]; exact (hm_un (hm_ne h0 hm0 (fun q => by cases q))).trans h0
    have h31 : fn1 ((r 1)) = some (eJ Γ 8 (fun i => b4 (gs i).2.1)) := by rw [efn1]; exact (hm_un (hm_ne hg1 hm0 (fun q => by cases q))).trans hg1
    have h32 : fn1 ((r 2)) = some (eI Γ 8 (fun i => nI (gs i).2.2.1)) := by rw [efn1]; exact (hm_un (hm_ne hg2 hm0 (fun q => by cases q))).trans hg2
    have h33 : fn1 ((r 3)) = some (eI Γ 8 (fun i => nI (gs i).1)) := by rw [efn1]; exact (hm_un (hm_ne hg3 hm0 (fun q => by cases q))).trans hg3
    have h34 : fn1 ((r 4)) = some (eI Γ 8 (fun i => (gs i).2.2.2.1)) := by rw [efn1]; exact (hm_un (hm_ne hg4 hm0 (fun q => by cases q))).trans hg4
    have h35 : fn1 ((r 5)) = some (eI Γ 8 (fun i => (gs i).2.2.2.2.1)) := by rw [efn1]; exact (hm_un (hm_ne hg5 hm0 (fun q => by cases q))).trans hg5
    have h36 : fn1 ((r 6)) = some (eI Γ 8 (fun i => (gs i).2.2.2.2.2.1)) := by rw [efn1]; exact (hm_un (hm_ne hg6 hm0 (fun q => by cases q))).trans hg6
    have h37 : fn1 ((r 7)) = some (eI Γ 8 (fun i => (gs i).2.2.2.2.2.2.1)) := by rw [efn1]; exact (hm_un (hm_ne hg7 hm0 (fun q => by cases q))).trans hg7
    have h38 : fn1 ((r 8)) = some (eI Γ 8 (fun i => (gs i).2.2.2.2.2.2.2.1)) := by rw [efn1]; exact (hm_un (hm_ne hg8 hm0 (fun q => by cases q))).trans hg8
    have h39 : fn1 ((r 9)) = some (eZ Γ 8 (fun i => bI (gs i).2.2.2.2.2.2.2.2)) := by rw [efn1]; exact (hm_un (hm_ne hg9 hm0 (fun q => by cases q))).trans hg9
    have h40 : fn1 ((r 10)) = some (eJ Γ 60 (fun i => b4 (ts i).2.1)) := by rw [efn1]; exact (hm_un (hm_ne ht10 hm0 (fun q => by cases q))).trans ht10
    have h41 : fn1 ((r 11)) = some (eI Γ 60 (fun i => nI (ts i).2.2.1)) := by rw [efn1]; exact (hm_un (hm_ne ht11 hm0 (fun q => by cases q))).trans ht11
    have h42 : fn1 ((r 12)) = some (eI Γ 60 (fun i => nI (ts i).1)) := by rw [efn1]; exact (hm_un (hm_ne ht12 hm0 (fun q => by cases q))).trans ht12
    have h43 : fn1 ((r 13)) = some (eI Γ 60 (fun i => (ts i).2.2.2)) := by rw [efn1]; exact (hm_un (hm_ne ht13 hm0 (fun q => by cases q))).trans ht13
    have h44 : fn1 ((r 14)) = some (eJ Γ 64 (fun j => (K j).1)) := by rw [efn1]; exact (hm_un (hm_ne hk0 hm0 (fun q => by cases q))).trans hk0
    have h45 : fn1 ((r 15)) = some (eI Γ 64 (fun j => (K j).2.1)) := by rw [efn1]; exact (hm_un (hm_ne hk1 hm0 (fun q => by cases q))).trans hk1
    have h46 : fn1 ((r 16)) = some (eI Γ 64 (fun j => (K j).2.2.1)) := by rw [efn1]; exact (hm_un (hm_ne hk2 hm0 (fun q => by cases q))).trans hk2
    have h47 : fn1 ((r 17)) = some (eI Γ 64 (fun j => (K j).2.2.2.1)) := by rw [efn1]; exact (hm_un (hm_ne hk3 hm0 (fun q => by cases q))).trans hk3
    have h48 : fn1 ((r 18)) = some (eI Γ 64 (fun j => (K j).2.2.2.2.1)) := by rw [efn1]; exact (hm_un (hm_ne hk4 hm0 (fun q => by cases q))).trans hk4
    have h49 : fn1 ((r 19)) = some (eI Γ 64 (fun j => (K j).2.2.2.2.2.1)) := by rw [efn1]; exact (hm_un (hm_ne hk5 hm0 (fun q => by cases q))).trans hk5
    have h50 : fn1 ((r 20)) = some (eI Γ 64 (fun j => (K j).2.2.2.2.2.2)) := by rw [efn1]; exact (hm_un (hm_ne hk6 hm0 (fun q => by cases q))).trans hk6
    have h51 : fn1 ((r 21)) = some (eJ Γ 6 pb) := by rw [efn1]; exact (hm_un (hm_ne hp0 hm0 (fun q => by cases q))).trans hp0
    have h52 : fn1 ((r 22)) = some (eI Γ 6 pz) := by rw [efn1]; exact (hm_un (hm_ne hp1 hm0 (fun q => by cases q))).trans hp1
    have h53 : fn1 ((r 23)) = some (eI Γ 6 pd) := by rw [efn1]; exact (hm_un (hm_ne hp2 hm0 (fun q => by cases q))).trans hp2
    have h54 : fn1 ((r 24)) = some (eI Γ 6 pn) := by rw [efn1]; exact (hm_un (hm_ne hp3 hm0 (fun q => by cases q))).trans hp3
    have h55 : fn1 ((r 25)) = some (eI Γ 6 pe) := by rw [efn1]; exact (hm_un (hm_ne hp4 hm0 (fun q => by cases q))).trans hp4
    have h56 : fn1 ((r 26)) = some (eI Γ 6 ph) := by rw [efn1]; exact (hm_un (hm_ne hp5 hm0 (fun q => by cases q))).trans hp5
    have h57 : fn1 ((r 27)) = some (eI Γ 6 pg) := by rw [efn1]; exact (hm_un (hm_ne hp6 hm0 (fun q => by cases q))).trans hp6
    refine lv_if_ne (tgt := 66) hx hb dX8_noHint_5 (by decide) (fun _ => ?_) (fun c286 => absurd c286 (by decide))
    refine lv_iconst (v := 1) hx hb dX8_noHint_66 (by decide) ?_
    refine lv_goto (tgt := 71) hx hb dX8_noHint_67 (by decide) ?_
    have hfr9 : hm_fr (mS m0 r) f fn1 := by
      rw [efn1]
      exact (hm_fr.rf (S := mS m0 r)).up mS_0
    exact hm_zret hx hb hr rfl hlocks hS hH (⟨Or.inr ⟨by rw [hb1]; exact (show (1 : Int32) ≠ 0 by decide), rfl, by rw [hb1]; exact MW.mk hm1_ ⟨⟨h44, h45, h46, h47, h48, h49, h50⟩, ⟨_, _, _, _, _, _, _, h51, h52, h53, h54, h55, h56, h57⟩, h30, ⟨h31, h32, h33, h34, h35, h36, h37, h38, h39⟩, h40, h41, h42, h43⟩⟩, hfr9.k⟩) (Nat.le_of_ble_eq_true rfl) (Nat.le_of_ble_eq_true rfl) dX8_noHint_71
