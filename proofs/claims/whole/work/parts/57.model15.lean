/-! the model: open, worth, isCached, pin, unpin, judge -/
theorem new_gap (z : Nat) : cntE (drawT (fun _ => 0) z) 9 ≠ 0 := by
  intro h0
  have hz := cntE_zero h0
  obtain ⟨c, hc, -, -, e⟩ := drawT_pos (t := fun _ => 0) (z := z) (by decide)
  by_cases q : c = 0
  · exact hz 1 (by decide) (by rw [e]; unfold updN; rw [if_neg (by omega)])
  · exact hz 0 (by decide) (by rw [e]; unfold updN; rw [if_neg (fun z => q z.symm)])
theorem new_tl (z : Nat) : tl 16 (drawT (fun _ => 0) z) := drawT_lt (fun _ _ => by decide) (by decide) z
theorem foldM_inv {go : Nat → Bool} {st : Nat → MT → MT} {M : MT} (P : MT → Prop) (h : P M) : ∀ {n : Nat}, (∀ k, k < n → ∀ M', P M' → P (st k M')) → P (foldM go st n M)
  | 0, _ => h
  | n + 1, hs => by
    have ih := foldM_inv (go := go) P h (n := n) (fun k hk => hs k (by omega))
    unfold foldM
    split
    · exact hs n (by omega) _ ih
    · exact ih
theorem trM_false {rr : Nat} {K : Nat → EV} {kp : Nat} {ck : Int32} : ∀ {d : Nat} {t : Nat → Nat} {z : Nat} {M : MT}, M.1 = K ∧ M.2.1 = kp ∧ M.2.2.1 = ck → (trM false rr d t z M).1 = K ∧ (trM false rr d t z M).2.1 = kp ∧ (trM false rr d t z M).2.2.1 = ck
  | 0, _, _, _, h => h
  | d + 1, t, z, M, h => by
    rw [trM_miss (fun q => by cases q)]
    exact foldM_inv (fun M => M.1 = K ∧ M.2.1 = kp ∧ M.2.2.1 = ck) (show (missM M).1 = K ∧ (missM M).2.1 = kp ∧ (missM M).2.2.1 = ck from h) (fun k hk M' h' => trM_false h')
theorem wS_low {f : Hm} {m0 : Nat} {r : Nat → Nat} {x : Nat × List Value} {y : ClassId × vp_A} {k : Nat} (hm : f m0 = some (.inr x)) (hk : f (r k) = some (.inl y)) (hrI : rI r) (h : k < 14) : ¬ wS m0 r (r k) := by
  rintro (q | ⟨j, h1, h2, q⟩)
  · exact hm_ne hk hm (fun z => by cases z) q
  · exact hrI k j (by omega) (by omega) (by omega) q
theorem fI_none {P : Nat → Bool} {n : Nat} (h : ∀ j, j < n → P j = false) : (fstP P n).isSome = false := by rw [fstP_none h]; rfl
theorem fI_some {P : Nat → Bool} {n i : Nat} (hi : i < n) (hp : P i = true) (hj : ∀ j, j < i → P j = false) : fstP P n = some i := fstP_some hp hj hi
set_option maxHeartbeats 4000000 in
set_option maxRecDepth 100000 in
theorem w_X8_open (Γ : Gm) (l : Launch) (m0 : Nat) (r : Nat → Nat) (th : Int32) (K : Nat → EV) (kp : Nat) (ck msh msm mso : Int32) (np : Nat) (mon : Nat → Int32) (ng : Nat) (gs : Nat → GS) (nt : Nat) (ts : Nat → TR) (lim : Int32) (rf sp : Int64) (rr : Nat) (v0 v1 : Int32) (f : Hm) (hM : MW Γ f m0 r th K kp ck msh msm mso np mon ng gs nt ts lim rf sp rr) (hnp : np ≤ 4) (hng : ng ≤ 8) (hnt : nt ≤ 60) (hr1 : 1 ≤ rr) (hrr : rr ≤ 64) (hkr : kp ≤ rr) (hrI : rI r) (hgs : GOK np ng gs) (hdf0 : ∀ i, ng ≤ i → (gs i).2.2.2 = (0, 0, 0, 0, 0, false)) : Ct Γ l yX8_open cX8_open 5 (some .int) 3 0 0 [.ref m0, .int v0, .int v1] f (mP (if inB v0 (nI np) then (if decide (0 ≤ v1) then (if decide (ng < 8) then 0 else 3) else 2) else 1) (nI ng) (mS m0 r) f (fun f' => MW Γ f' m0 r 0 K kp ck msh msm mso np mon ((ng + 1)) ((setG gs ng (ix v0, newB (ix v1), newZ (ix v1), 0, 0, 0, 0, 0, false))) nt ts lim rf sp rr) (fun f' => MW Γ f' m0 r ((if inB v0 (nI np) then (if decide (0 ≤ v1) then (if decide (ng < 8) then 0 else 3) else 2) else 1)) K kp ck msh msm mso np mon ng gs nt ts lim rf sp rr)) := by
  refine Ct_of (by decide +kernel) (Nat.le_of_ble_eq_true rfl) ?_
  intro p e s m args below meth c hx hb hr hml hown hin hlocks hts hH hO hK ls hl
  have hl : lv_has ls 5 [(0, .ref m0), (1, .int v0), (2, .int v1)] := hl
  have hS : va_S (gA Γ) s.heap s.heap [] := va_S.rf
  obtain ⟨⟨dz, gd, hih, mih, fh, hm0⟩, hR⟩ := id hM
  obtain ⟨⟨hk0, hk1, hk2, hk3, hk4, hk5, hk6⟩, ⟨pb, pz, pd, pn, pe, ph, pg, hp0, hp1, hp2, hp3, hp4, hp5, hp6⟩, h0, ⟨hg1, hg2, hg3, hg4, hg5, hg6, hg7, hg8, hg9⟩, ht10, ht11, ht12, ht13⟩ := id hR
  have hdf := hdf0 ng (Nat.le_refl _)
  refine lv_aload_n hx hb dX8_open_0 rfl (lv_at hl 0 rfl) ?_
  refine lv_iload_n hx hb dX8_open_1 rfl (lv_at hl 1 rfl) ?_
  refine lv_if_lt (tgt := 17) hx hb dX8_open_2 (by decide) (fun c1 => ?_) (fun c1 => ?_)
  · refine lv_iconst (v := 0) hx hb dX8_open_17 (by decide) ?_
    refine lv_iconst (v := 1) hx hb dX8_open_18 (by decide) ?_
    have hb2 : (inB v0 (nI np)) = false := (by unfold inB; rw [decide_eq_true c1]; rfl)
    refine W.eq (g2 := F0 m 19 ls [.int 1, .int (bI (inB v0 (nI np))), .ref m0]) (by rw [hb2]; rfl) ?_
    refine hm_callV (rest := []) (k := 1) q5_119 q5_121 q1_9 q5_122 q0_17 rfl nm_X8_no rfl hx hb hml hown hts hK hO hS hH hl.1 hm0 (c_X8_no Γ l m0 r th (nI np) (nI ng) (nI nt) (nI kp) (nI rr) ck lim dz gd hih mih fh msh msm mso sp rf (inB v0 (nI np)) 1 f hm0) ⟨Nat.le_of_ble_eq_true rfl, Nat.le_of_ble_eq_true rfl⟩ ⟨Nat.le_of_ble_eq_true rfl, Nat.le_of_ble_eq_true rfl⟩ rfl (Nat.le_of_ble_eq_true rfl) dX8_open_19 (fun v_ fn3 H locs hp_ hH hS => ?_)
    obtain ⟨rfl, efn3⟩ := hp_
    rw [hb2] at efn3
    refine W.eq (g2 := F0 m 22 ls [.int 1]) (by rw [hb2]; rfl) ?_
    have hm4 : fn3 m0 = some (eM r 1 (nI np) (nI ng) (nI nt) (nI kp) (nI rr) ck lim dz gd hih mih fh msh msm mso sp rf) := by rw [efn3]; exact hm_us
    have h5 : fn3 ((r 0)) = some (eI Γ 4 mon) := by rw [efn3]; exact (hm_un (hm_ne h0 hm0 (fun q => by cases q))).trans h0
    have h6 : fn3 ((r 1)) = some (eJ Γ 8 (fun i => b4 (gs i).2.1)) := by rw [efn3]; exact (hm_un (hm_ne hg1 hm0 (fun q => by cases q))).trans hg1
    have h7 : fn3 ((r 2)) = some (eI Γ 8 (fun i => nI (gs i).2.2.1)) := by rw [efn3]; exact (hm_un (hm_ne hg2 hm0 (fun q => by cases q))).trans hg2
    have h8 : fn3 ((r 3)) = some (eI Γ 8 (fun i => nI (gs i).1)) := by rw [efn3]; exact (hm_un (hm_ne hg3 hm0 (fun q => by cases q))).trans hg3
    have h9 : fn3 ((r 4)) = some (eI Γ 8 (fun i => (gs i).2.2.2.1)) := by rw [efn3]; exact (hm_un (hm_ne hg4 hm0 (fun q => by cases q))).trans hg4
    have h10 : fn3 ((r 5)) = some (eI Γ 8 (fun i => (gs i).2.2.2.2.1)) := by rw [efn3]; exact (hm_un (hm_ne hg5 hm0 (fun q => by cases q))).trans hg5
    have h11 : fn3 ((r 6)) = some (eI Γ 8 (fun i => (gs i).2.2.2.2.2.1)) := by rw [efn3]; exact (hm_un (hm_ne hg6 hm0 (fun q => by cases q))).trans hg6
    have h12 : fn3 ((r 7)) = some (eI Γ 8 (fun i => (gs i).2.2.2.2.2.2.1)) := by rw [efn3]; exact (hm_un (hm_ne hg7 hm0 (fun q => by cases q))).trans hg7
    have h13 : fn3 ((r 8)) = some (eI Γ 8 (fun i => (gs i).2.2.2.2.2.2.2.1)) := by rw [efn3]; exact (hm_un (hm_ne hg8 hm0 (fun q => by cases q))).trans hg8
    have h14 : fn3 ((r 9)) = some (eZ Γ 8 (fun i => bI (gs i).2.2.2.2.2.2.2.2)) := by rw [efn3]; exact (hm_un (hm_ne hg9 hm0 (fun q => by cases q))).trans hg9
    have h15 : fn3 ((r 10)) = some (eJ Γ 60 (fun i => b4 (ts i).2.1)) := by rw [efn3]; exact (hm_un (hm_ne ht10 hm0 (fun q => by cases q))).trans ht10
    have h16 : fn3 ((r 11)) = some (eI Γ 60 (fun i => nI (ts i).2.2.1)) := by rw [efn3]; exact (hm_un (hm_ne ht11 hm0 (fun q => by cases q))).trans ht11
    have h17 : fn3 ((r 12)) = some (eI Γ 60 (fun i => nI (ts i).1)) := by rw [efn3]; exact (hm_un (hm_ne ht12 hm0 (fun q => by cases q))).trans ht12
    have h18 : fn3 ((r 13)) = some (eI Γ 60 (fun i => (ts i).2.2.2)) := by rw [efn3]; exact (hm_un (hm_ne ht13 hm0 (fun q => by cases q))).trans ht13
    have h19 : fn3 ((r 14)) = some (eJ Γ 64 (fun j => (K j).1)) := by rw [efn3]; exact (hm_un (hm_ne hk0 hm0 (fun q => by cases q))).trans hk0
    have h20 : fn3 ((r 15)) = some (eI Γ 64 (fun j => (K j).2.1)) := by rw [efn3]; exact (hm_un (hm_ne hk1 hm0 (fun q => by cases q))).trans hk1
    have h21 : fn3 ((r 16)) = some (eI Γ 64 (fun j => (K j).2.2.1)) := by rw [efn3]; exact (hm_un (hm_ne hk2 hm0 (fun q => by cases q))).trans hk2
    have h22 : fn3 ((r 17)) = some (eI Γ 64 (fun j => (K j).2.2.2.1)) := by rw [efn3]; exact (hm_un (hm_ne hk3 hm0 (fun q => by cases q))).trans hk3
    have h23 : fn3 ((r 18)) = some (eI Γ 64 (fun j => (K j).2.2.2.2.1)) := by rw [efn3]; exact (hm_un (hm_ne hk4 hm0 (fun q => by cases q))).trans hk4
    have h24 : fn3 ((r 19)) = some (eI Γ 64 (fun j => (K j).2.2.2.2.2.1)) := by rw [efn3]; exact (hm_un (hm_ne hk5 hm0 (fun q => by cases q))).trans hk5
    have h25 : fn3 ((r 20)) = some (eI Γ 64 (fun j => (K j).2.2.2.2.2.2)) := by rw [efn3]; exact (hm_un (hm_ne hk6 hm0 (fun q => by cases q))).trans hk6
    have h26 : fn3 ((r 21)) = some (eJ Γ 6 pb) := by rw [efn3]; exact (hm_un (hm_ne hp0 hm0 (fun q => by cases q))).trans hp0
    have h27 : fn3 ((r 22)) = some (eI Γ 6 pz) := by rw [efn3]; exact (hm_un (hm_ne hp1 hm0 (fun q => by cases q))).trans hp1
    have h28 : fn3 ((r 23)) = some (eI Γ 6 pd) := by rw [efn3]; exact (hm_un (hm_ne hp2 hm0 (fun q => by cases q))).trans hp2
    have h29 : fn3 ((r 24)) = some (eI Γ 6 pn) := by rw [efn3]; exact (hm_un (hm_ne hp3 hm0 (fun q => by cases q))).trans hp3
    have h30 : fn3 ((r 25)) = some (eI Γ 6 pe) := by rw [efn3]; exact (hm_un (hm_ne hp4 hm0 (fun q => by cases q))).trans hp4
    have h31 : fn3 ((r 26)) = some (eI Γ 6 ph) := by rw [efn3]; exact (hm_un (hm_ne hp5 hm0 (fun q => by cases q))).trans hp5
    have h32 : fn3 ((r 27)) = some (eI Γ 6 pg) := by rw [efn3]; exact (hm_un (hm_ne hp6 hm0 (fun q => by cases q))).trans hp6
    refine lv_if_ne (tgt := 64) hx hb dX8_open_22 (by decide) (fun _ => ?_) (fun c33 => absurd c33 (by decide))
    refine lv_iconst (v := 0) hx hb dX8_open_64 (by decide) ?_
    have hfr9 : hm_fr (mS m0 r) f fn3 := by
      rw [efn3]
      exact (hm_fr.rf (S := mS m0 r)).up mS_0
    exact hm_iret hx hb hr hlocks hS hH (⟨Or.inr ⟨by rw [hb2]; exact (show (1 : Int32) ≠ 0 by decide), ⟨_, rfl⟩, by rw [hb2]; exact MW.mk hm4 ⟨⟨h19, h20, h21, h22, h23, h24, h25⟩, ⟨_, _, _, _, _, _, _, h26, h27, h28, h29, h30, h31, h32⟩, h5, ⟨h6, h7, h8, h9, h10, h11, h12, h13, h14⟩, h15, h16, h17, h18⟩⟩, hfr9.k⟩) (Nat.le_of_ble_eq_true rfl) (Nat.le_of_ble_eq_true rfl) dX8_open_65
  · refine lv_iload_n hx hb dX8_open_5 rfl (lv_at hl 1 rfl) ?_
    refine lv_aload_n hx hb dX8_open_6 rfl (lv_at hl 0 rfl) ?_
    refine gf_X8_148 hx hb hts hown hK hH hm0 rfl dX8_open_7 ?_
    refine lv_icmp_ge (tgt := 17) hx hb dX8_open_10 (by decide) (fun c34 => ?_) (fun c34 => ?_)
    · refine lv_iconst (v := 0) hx hb dX8_open_17 (by decide) ?_
      refine lv_iconst (v := 1) hx hb dX8_open_18 (by decide) ?_
      have hb35 : (inB v0 (nI np)) = false := (by unfold inB; rw [decide_eq_false (Int32.not_lt.mpr c34), Bool.and_false])
      refine W.eq (g2 := F0 m 19 ls [.int 1, .int (bI (inB v0 (nI np))), .ref m0]) (by rw [hb35]; rfl) ?_
      refine hm_callV (rest := []) (k := 1) q5_119 q5_121 q1_9 q5_122 q0_17 rfl nm_X8_no rfl hx hb hml hown hts hK hO hS hH hl.1 hm0 (c_X8_no Γ l m0 r th (nI np) (nI ng) (nI nt) (nI kp) (nI rr) ck lim dz gd hih mih fh msh msm mso sp rf (inB v0 (nI np)) 1 f hm0) ⟨Nat.le_of_ble_eq_true rfl, Nat.le_of_ble_eq_true rfl⟩ ⟨Nat.le_of_ble_eq_true rfl, Nat.le_of_ble_eq_true rfl⟩ rfl (Nat.le_of_ble_eq_true rfl) dX8_open_19 (fun v_ fn36 H locs hp_ hH hS => ?_)
      obtain ⟨rfl, efn36⟩ := hp_
      rw [hb35] at efn36
      refine W.eq (g2 := F0 m 22 ls [.int 1]) (by rw [hb35]; rfl) ?_
      have hm37 : fn36 m0 = some (eM r 1 (nI np) (nI ng) (nI nt) (nI kp) (nI rr) ck lim dz gd hih mih fh msh msm mso sp rf) := by rw [efn36]; exact hm_us
      have h38 : fn36 ((r 0)) = some (eI Γ 4 mon) := by rw [efn36]; exact (hm_un (hm_ne h0 hm0 (fun q => by cases q))).trans h0
      have h39 : fn36 ((r 1)) = some (eJ Γ 8 (fun i => b4 (gs i).2.1)) := by rw [efn36]; exact (hm_un (hm_ne hg1 hm0 (fun q => by cases q))).trans hg1
      have h40 : fn36 ((r 2)) = some (eI Γ 8 (fun i => nI (gs i).2.2.1)) := by rw [efn36]; exact (hm_un (hm_ne hg2 hm0 (fun q => by cases q))).trans hg2
      have h41 : fn36 ((r 3)) = some (eI Γ 8 (fun i => nI (gs i).1)) := by rw [efn36]; exact (hm_un (hm_ne hg3 hm0 (fun q => by cases q))).trans hg3
      have h42 : fn36 ((r 4)) = some (eI Γ 8 (fun i => (gs i).2.2.2.1)) := by rw [efn36]; exact (hm_un (hm_ne hg4 hm0 (fun q => by cases q))).trans hg4
      have h43 : fn36 ((r 5)) = some (eI Γ 8 (fun i => (gs i).2.2.2.2.1)) := by rw [efn36]; exact (hm_un (hm_ne hg5 hm0 (fun q => by cases q))).trans hg5
      have h44 : fn36 ((r 6)) = some (eI Γ 8 (fun i => (gs i).2.2.2.2.2.1)) := by rw [efn36]; exact (hm_un (hm_ne hg6 hm0 (fun q => by cases q))).trans hg6
      have h45 : fn36 ((r 7)) = some (eI Γ 8 (fun i => (gs i).2.2.2.2.2.2.1)) := by rw [efn36]; exact (hm_un (hm_ne hg7 hm0 (fun q => by cases q))).trans hg7
      have h46 : fn36 ((r 8)) = some (eI Γ 8 (fun i => (gs i).2.2.2.2.2.2.2.1)) := by rw [efn36]; exact (hm_un (hm_ne hg8 hm0 (fun q => by cases q))).trans hg8
      have h47 : fn36 ((r 9)) = some (eZ Γ 8 (fun i => bI (gs i).2.2.2.2.2.2.2.2)) := by rw [efn36]; exact (hm_un (hm_ne hg9 hm0 (fun q => by cases q))).trans hg9
      have h48 : fn36 ((r 10)) = some (eJ Γ 60 (fun i => b4 (ts i).2.1)) := by rw [efn36]; exact (hm_un (hm_ne ht10 hm0 (fun q => by cases q))).trans ht10
      have h49 : fn36 ((r 11)) = some (eI Γ 60 (fun i => nI (ts i).2.2.1)) := by rw [efn36]; exact (hm_un (hm_ne ht11 hm0 (fun q => by cases q))).trans ht11
      have h50 : fn36 ((r 12)) = some (eI Γ 60 (fun i => nI (ts i).1)) := by rw [efn36]; exact (hm_un (hm_ne ht12 hm0 (fun q => by cases q))).trans ht12
      have h51 : fn36 ((r 13)) = some (eI Γ 60 (fun i => (ts i).2.2.2)) := by rw [efn36]; exact (hm_un (hm_ne ht13 hm0 (fun q => by cases q))).trans ht13
      have h52 : fn36 ((r 14)) = some (eJ Γ 64 (fun j => (K j).1)) := by rw [efn36]; exact (hm_un (hm_ne hk0 hm0 (fun q => by cases q))).trans hk0
      have h53 : fn36 ((r 15)) = some (eI Γ 64 (fun j => (K j).2.1)) := by rw [efn36]; exact (hm_un (hm_ne hk1 hm0 (fun q => by cases q))).trans hk1
      have h54 : fn36 ((r 16)) = some (eI Γ 64 (fun j => (K j).2.2.1)) := by rw [efn36]; exact (hm_un (hm_ne hk2 hm0 (fun q => by cases q))).trans hk2
      have h55 : fn36 ((r 17)) = some (eI Γ 64 (fun j => (K j).2.2.2.1)) := by rw [efn36]; exact (hm_un (hm_ne hk3 hm0 (fun q => by cases q))).trans hk3
      have h56 : fn36 ((r 18)) = some (eI Γ 64 (fun j => (K j).2.2.2.2.1)) := by rw [efn36]; exact (hm_un (hm_ne hk4 hm0 (fun q => by cases q))).trans hk4
      have h57 : fn36 ((r 19)) = some (eI Γ 64 (fun j => (K j).2.2.2.2.2.1)) := by rw [efn36]; exact (hm_un (hm_ne hk5 hm0 (fun q => by cases q))).trans hk5
      have h58 : fn36 ((r 20)) = some (eI Γ 64 (fun j => (K j).2.2.2.2.2.2)) := by rw [efn36]; exact (hm_un (hm_ne hk6 hm0 (fun q => by cases q))).trans hk6
      have h59 : fn36 ((r 21)) = some (eJ Γ 6 pb) := by rw [efn36]; exact (hm_un (hm_ne hp0 hm0 (fun q => by cases q))).trans hp0
      have h60 : fn36 ((r 22)) = some (eI Γ 6 pz) := by rw [efn36]; exact (hm_un (hm_ne hp1 hm0 (fun q => by cases q))).trans hp1
      have h61 : fn36 ((r 23)) = some (eI Γ 6 pd) := by rw [efn36]; exact (hm_un (hm_ne hp2 hm0 (fun q => by cases q))).trans hp2
      have h62 : fn36 ((r 24)) = some (eI Γ 6 pn) := by rw [efn36]; exact (hm_un (hm_ne hp3 hm0 (fun q => by cases q))).trans hp3
      have h63 : fn36 ((r 25)) = some (eI Γ 6 pe) := by rw [efn36]; exact (hm_un (hm_ne hp4 hm0 (fun q => by cases q))).trans hp4
      have h64 : fn36 ((r 26)) = some (eI Γ 6 ph) := by rw [efn36]; exact (hm_un (hm_ne hp5 hm0 (fun q => by cases q))).trans hp5
      have h65 : fn36 ((r 27)) = some (eI Γ 6 pg) := by rw [efn36]; exact (hm_un (hm_ne hp6 hm0 (fun q => by cases q))).trans hp6
      refine lv_if_ne (tgt := 64) hx hb dX8_open_22 (by decide) (fun _ => ?_) (fun c66 => absurd c66 (by decide))
      refine lv_iconst (v := 0) hx hb dX8_open_64 (by decide) ?_
      have hfr9 : hm_fr (mS m0 r) f fn36 := by
        rw [efn36]
        exact (hm_fr.rf (S := mS m0 r)).up mS_0
      exact hm_iret hx hb hr hlocks hS hH (⟨Or.inr ⟨by rw [hb35]; exact (show (1 : Int32) ≠ 0 by decide), ⟨_, rfl⟩, by rw [hb35]; exact MW.mk hm37 ⟨⟨h52, h53, h54, h55, h56, h57, h58⟩, ⟨_, _, _, _, _, _, _, h59, h60, h61, h62, h63, h64, h65⟩, h38, ⟨h39, h40, h41, h42, h43, h44, h45, h46, h47⟩, h48, h49, h50, h51⟩⟩, hfr9.k⟩) (Nat.le_of_ble_eq_true rfl) (Nat.le_of_ble_eq_true rfl) dX8_open_65
    · refine lv_iconst (v := 1) hx hb dX8_open_13 (by decide) ?_
      refine lv_goto (tgt := 18) hx hb dX8_open_14 (by decide) ?_
      refine lv_iconst (v := 1) hx hb dX8_open_18 (by decide) ?_
      have hb67 : (inB v0 (nI np)) = true := (by unfold inB; rw [decide_eq_false c1, decide_eq_true (Int32.not_le.mp c34)]; rfl)
      refine W.eq (g2 := F0 m 19 ls [.int 1, .int (bI (inB v0 (nI np))), .ref m0]) (by rw [hb67]; rfl) ?_
      refine hm_callV (rest := []) (k := 1) q5_119 q5_121 q1_9 q5_122 q0_17 rfl nm_X8_no rfl hx hb hml hown hts hK hO hS hH hl.1 hm0 (c_X8_no Γ l m0 r th (nI np) (nI ng) (nI nt) (nI kp) (nI rr) ck lim dz gd hih mih fh msh msm mso sp rf (inB v0 (nI np)) 1 f hm0) ⟨Nat.le_of_ble_eq_true rfl, Nat.le_of_ble_eq_true rfl⟩ ⟨Nat.le_of_ble_eq_true rfl, Nat.le_of_ble_eq_true rfl⟩ rfl (Nat.le_of_ble_eq_true rfl) dX8_open_19 (fun v_ fn68 H locs hp_ hH hS => ?_)
      obtain ⟨rfl, efn68⟩ := hp_
      rw [hb67] at efn68
      refine W.eq (g2 := F0 m 22 ls [.int 0]) (by rw [hb67]; rfl) ?_
      have hm69 : fn68 m0 = some (eM r 0 (nI np) (nI ng) (nI nt) (nI kp) (nI rr) ck lim dz gd hih mih fh msh msm mso sp rf) := by rw [efn68]; exact hm_us
      have h70 : fn68 ((r 0)) = some (eI Γ 4 mon) := by rw [efn68]; exact (hm_un (hm_ne h0 hm0 (fun q => by cases q))).trans h0
      have h71 : fn68 ((r 1)) = some (eJ Γ 8 (fun i => b4 (gs i).2.1)) := by rw [efn68]; exact (hm_un (hm_ne hg1 hm0 (fun q => by cases q))).trans hg1
      have h72 : fn68 ((r 2)) = some (eI Γ 8 (fun i => nI (gs i).2.2.1)) := by rw [efn68]; exact (hm_un (hm_ne hg2 hm0 (fun q => by cases q))).trans hg2
      have h73 : fn68 ((r 3)) = some (eI Γ 8 (fun i => nI (gs i).1)) := by rw [efn68]; exact (hm_un (hm_ne hg3 hm0 (fun q => by cases q))).trans hg3
      have h74 : fn68 ((r 4)) = some (eI Γ 8 (fun i => (gs i).2.2.2.1)) := by rw [efn68]; exact (hm_un (hm_ne hg4 hm0 (fun q => by cases q))).trans hg4
      have h75 : fn68 ((r 5)) = some (eI Γ 8 (fun i => (gs i).2.2.2.2.1)) := by rw [efn68]; exact (hm_un (hm_ne hg5 hm0 (fun q => by cases q))).trans hg5
      have h76 : fn68 ((r 6)) = some (eI Γ 8 (fun i => (gs i).2.2.2.2.2.1)) := by rw [efn68]; exact (hm_un (hm_ne hg6 hm0 (fun q => by cases q))).trans hg6
      have h77 : fn68 ((r 7)) = some (eI Γ 8 (fun i => (gs i).2.2.2.2.2.2.1)) := by rw [efn68]; exact (hm_un (hm_ne hg7 hm0 (fun q => by cases q))).trans hg7
      have h78 : fn68 ((r 8)) = some (eI Γ 8 (fun i => (gs i).2.2.2.2.2.2.2.1)) := by rw [efn68]; exact (hm_un (hm_ne hg8 hm0 (fun q => by cases q))).trans hg8
      have h79 : fn68 ((r 9)) = some (eZ Γ 8 (fun i => bI (gs i).2.2.2.2.2.2.2.2)) := by rw [efn68]; exact (hm_un (hm_ne hg9 hm0 (fun q => by cases q))).trans hg9
      have h80 : fn68 ((r 10)) = some (eJ Γ 60 (fun i => b4 (ts i).2.1)) := by rw [efn68]; exact (hm_un (hm_ne ht10 hm0 (fun q => by cases q))).trans ht10
      have h81 : fn68 ((r 11)) = some (eI Γ 60 (fun i => nI (ts i).2.2.1)) := by rw [efn68]; exact (hm_un (hm_ne ht11 hm0 (fun q => by cases q))).trans ht11
      have h82 : fn68 ((r 12)) = some (eI Γ 60 (fun i => nI (ts i).1)) := by rw [efn68]; exact (hm_un (hm_ne ht12 hm0 (fun q => by cases q))).trans ht12
      have h83 : fn68 ((r 13)) = some (eI Γ 60 (fun i => (ts i).2.2.2)) := by rw [efn68]; exact (hm_un (hm_ne ht13 hm0 (fun q => by cases q))).trans ht13
      have h84 : fn68 ((r 14)) = some (eJ Γ 64 (fun j => (K j).1)) := by rw [efn68]; exact (hm_un (hm_ne hk0 hm0 (fun q => by cases q))).trans hk0
      have h85 : fn68 ((r 15)) = some (eI Γ 64 (fun j => (K j).2.1)) := by rw [efn68]; exact (hm_un (hm_ne hk1 hm0 (fun q => by cases q))).trans hk1
      have h86 : fn68 ((r 16)) = some (eI Γ 64 (fun j => (K j).2.2.1)) := by rw [efn68]; exact (hm_un (hm_ne hk2 hm0 (fun q => by cases q))).trans hk2
      have h87 : fn68 ((r 17)) = some (eI Γ 64 (fun j => (K j).2.2.2.1)) := by rw [efn68]; exact (hm_un (hm_ne hk3 hm0 (fun q => by cases q))).trans hk3
      have h88 : fn68 ((r 18)) = some (eI Γ 64 (fun j => (K j).2.2.2.2.1)) := by rw [efn68]; exact (hm_un (hm_ne hk4 hm0 (fun q => by cases q))).trans hk4
      have h89 : fn68 ((r 19)) = some (eI Γ 64 (fun j => (K j).2.2.2.2.2.1)) := by rw [efn68]; exact (hm_un (hm_ne hk5 hm0 (fun q => by cases q))).trans hk5
      have h90 : fn68 ((r 20)) = some (eI Γ 64 (fun j => (K j).2.2.2.2.2.2)) := by rw [efn68]; exact (hm_un (hm_ne hk6 hm0 (fun q => by cases q))).trans hk6
      have h91 : fn68 ((r 21)) = some (eJ Γ 6 pb) := by rw [efn68]; exact (hm_un (hm_ne hp0 hm0 (fun q => by cases q))).trans hp0
      have h92 : fn68 ((r 22)) = some (eI Γ 6 pz) := by rw [efn68]; exact (hm_un (hm_ne hp1 hm0 (fun q => by cases q))).trans hp1
      have h93 : fn68 ((r 23)) = some (eI Γ 6 pd) := by rw [efn68]; exact (hm_un (hm_ne hp2 hm0 (fun q => by cases q))).trans hp2
      have h94 : fn68 ((r 24)) = some (eI Γ 6 pn) := by rw [efn68]; exact (hm_un (hm_ne hp3 hm0 (fun q => by cases q))).trans hp3
      have h95 : fn68 ((r 25)) = some (eI Γ 6 pe) := by rw [efn68]; exact (hm_un (hm_ne hp4 hm0 (fun q => by cases q))).trans hp4
      have h96 : fn68 ((r 26)) = some (eI Γ 6 ph) := by rw [efn68]; exact (hm_un (hm_ne hp5 hm0 (fun q => by cases q))).trans hp5
      have h97 : fn68 ((r 27)) = some (eI Γ 6 pg) := by rw [efn68]; exact (hm_un (hm_ne hp6 hm0 (fun q => by cases q))).trans hp6
      refine lv_if_ne (tgt := 64) hx hb dX8_open_22 (by decide) (fun c98 => absurd (by decide) c98) (fun _ => ?_)
      refine lv_aload_n hx hb dX8_open_25 rfl (lv_at hl 0 rfl) ?_
      refine lv_iload_n hx hb dX8_open_26 rfl (lv_at hl 2 rfl) ?_
      refine lv_if_lt (tgt := 34) hx hb dX8_open_27 (by decide) (fun c99 => ?_) (fun c99 => ?_)
      · refine lv_iconst (v := 0) hx hb dX8_open_34 (by decide) ?_
        refine lv_iconst (v := 2) hx hb dX8_open_35 (by decide) ?_
        have hb100 : (decide (0 ≤ v1)) = false := decide_eq_false (Int32.not_le.mpr c99)
        refine W.eq (g2 := F0 m 36 ls [.int 2, .int (bI (decide (0 ≤ v1))), .ref m0]) (by rw [hb100]; rfl) ?_
        refine hm_callV (rest := []) (k := 1) q5_119 q5_121 q1_9 q5_122 q0_17 rfl nm_X8_no rfl hx hb hml hown hts hK hO hS hH hl.1 hm69 (c_X8_no Γ l m0 r 0 (nI np) (nI ng) (nI nt) (nI kp) (nI rr) ck lim dz gd hih mih fh msh msm mso sp rf (decide (0 ≤ v1)) 2 fn68 hm69) ⟨Nat.le_of_ble_eq_true rfl, Nat.le_of_ble_eq_true rfl⟩ ⟨Nat.le_of_ble_eq_true rfl, Nat.le_of_ble_eq_true rfl⟩ rfl (Nat.le_of_ble_eq_true rfl) dX8_open_36 (fun v_ fn101 H locs hp_ hH hS => ?_)
        obtain ⟨rfl, efn101⟩ := hp_
        rw [hb100] at efn101
        refine W.eq (g2 := F0 m 39 ls [.int 1]) (by rw [hb100]; rfl) ?_
        have hm102 : fn101 m0 = some (eM r 2 (nI np) (nI ng) (nI nt) (nI kp) (nI rr) ck lim dz gd hih mih fh msh msm mso sp rf) := by rw [efn101]; exact hm_us
        have h103 : fn101 ((r 0)) = some (eI Γ 4 mon) := by rw [efn101]; exact (hm_un (hm_ne h70 hm69 (fun q => by cases q))).trans h70
        have h104 : fn101 ((r 1)) = some (eJ Γ 8 (fun i => b4 (gs i).2.1)) := by rw [efn101]; exact (hm_un (hm_ne h71 hm69 (fun q => by cases q))).trans h71
        have h105 : fn101 ((r 2)) = some (eI Γ 8 (fun i => nI (gs i).2.2.1)) := by rw [efn101]; exact (hm_un (hm_ne h72 hm69 (fun q => by cases q))).trans h72
        have h106 : fn101 ((r 3)) = some (eI Γ 8 (fun i => nI (gs i).1)) := by rw [efn101]; exact (hm_un (hm_ne h73 hm69 (fun q => by cases q))).trans h73
        have h107 : fn101 ((r 4)) = some (eI Γ 8 (fun i => (gs i).2.2.2.1)) := by rw [efn101]; exact (hm_un (hm_ne h74 hm69 (fun q => by cases q))).trans h74
        have h108 : fn101 ((r 5)) = some (eI Γ 8 (fun i => (gs i).2.2.2.2.1)) := by rw [efn101]; exact (hm_un (hm_ne h75 hm69 (fun q => by cases q))).trans h75
        have h109 : fn101 ((r 6)) = some (eI Γ 8 (fun i => (gs i).2.2.2.2.2.1)) := by rw [efn101]; exact (hm_un (hm_ne h76 hm69 (fun q => by cases q))).trans h76
        have h110 : fn101 ((r 7)) = some (eI Γ 8 (fun i => (gs i).2.2.2.2.2.2.1)) := by rw [efn101]; exact (hm_un (hm_ne h77 hm69 (fun q => by cases q))).trans h77
        have h111 : fn101 ((r 8)) = some (eI Γ 8 (fun i => (gs i).2.2.2.2.2.2.2.1)) := by rw [efn101]; exact (hm_un (hm_ne h78 hm69 (fun q => by cases q))).trans h78
        have h112 : fn101 ((r 9)) = some (eZ Γ 8 (fun i => bI (gs i).2.2.2.2.2.2.2.2)) := by rw [efn101]; exact (hm_un (hm_ne h79 hm69 (fun q => by cases q))).trans h79
        have h113 : fn101 ((r 10)) = some (eJ Γ 60 (fun i => b4 (ts i).2.1)) := by rw [efn101]; exact (hm_un (hm_ne h80 hm69 (fun q => by cases q))).trans h80
        have h114 : fn101 ((r 11)) = some (eI Γ 60 (fun i => nI (ts i).2.2.1)) := by rw [efn101]; exact (hm_un (hm_ne h81 hm69 (fun q => by cases q))).trans h81
        have h115 : fn101 ((r 12)) = some (eI Γ 60 (fun i => nI (ts i).1)) := by rw [efn101]; exact (hm_un (hm_ne h82 hm69 (fun q => by cases q))).trans h82
        have h116 : fn101 ((r 13)) = some (eI Γ 60 (fun i => (ts i).2.2.2)) := by rw [efn101]; exact (hm_un (hm_ne h83 hm69 (fun q => by cases q))).trans h83
        have h117 : fn101 ((r 14)) = some (eJ Γ 64 (fun j => (K j).1)) := by rw [efn101]; exact (hm_un (hm_ne h84 hm69 (fun q => by cases q))).trans h84
        have h118 : fn101 ((r 15)) = some (eI Γ 64 (fun j => (K j).2.1)) := by rw [efn101]; exact (hm_un (hm_ne h85 hm69 (fun q => by cases q))).trans h85
        have h119 : fn101 ((r 16)) = some (eI Γ 64 (fun j => (K j).2.2.1)) := by rw [efn101]; exact (hm_un (hm_ne h86 hm69 (fun q => by cases q))).trans h86
        have h120 : fn101 ((r 17)) = some (eI Γ 64 (fun j => (K j).2.2.2.1)) := by rw [efn101]; exact (hm_un (hm_ne h87 hm69 (fun q => by cases q))).trans h87
        have h121 : fn101 ((r 18)) = some (eI Γ 64 (fun j => (K j).2.2.2.2.1)) := by rw [efn101]; exact (hm_un (hm_ne h88 hm69 (fun q => by cases q))).trans h88
        have h122 : fn101 ((r 19)) = some (eI Γ 64 (fun j => (K j).2.2.2.2.2.1)) := by rw [efn101]; exact (hm_un (hm_ne h89 hm69 (fun q => by cases q))).trans h89
        have h123 : fn101 ((r 20)) = some (eI Γ 64 (fun j => (K j).2.2.2.2.2.2)) := by rw [efn101]; exact (hm_un (hm_ne h90 hm69 (fun q => by cases q))).trans h90
        have h124 : fn101 ((r 21)) = some (eJ Γ 6 pb) := by rw [efn101]; exact (hm_un (hm_ne h91 hm69 (fun q => by cases q))).trans h91
        have h125 : fn101 ((r 22)) = some (eI Γ 6 pz) := by rw [efn101]; exact (hm_un (hm_ne h92 hm69 (fun q => by cases q))).trans h92
        have h126 : fn101 ((r 23)) = some (eI Γ 6 pd) := by rw [efn101]; exact (hm_un (hm_ne h93 hm69 (fun q => by cases q))).trans h93
        have h127 : fn101 ((r 24)) = some (eI Γ 6 pn) := by rw [efn101]; exact (hm_un (hm_ne h94 hm69 (fun q => by cases q))).trans h94
        have h128 : fn101 ((r 25)) = some (eI Γ 6 pe) := by rw [efn101]; exact (hm_un (hm_ne h95 hm69 (fun q => by cases q))).trans h95
        have h129 : fn101 ((r 26)) = some (eI Γ 6 ph) := by rw [efn101]; exact (hm_un (hm_ne h96 hm69 (fun q => by cases q))).trans h96
        have h130 : fn101 ((r 27)) = some (eI Γ 6 pg) := by rw [efn101]; exact (hm_un (hm_ne h97 hm69 (fun q => by cases q))).trans h97
        refine lv_if_ne (tgt := 64) hx hb dX8_open_39 (by decide) (fun _ => ?_) (fun c131 => absurd c131 (by decide))
        refine lv_iconst (v := 0) hx hb dX8_open_64 (by decide) ?_
        have hfr9 : hm_fr (mS m0 r) f fn101 := by
          rw [efn101, efn68]
          exact ((hm_fr.rf (S := mS m0 r)).up mS_0).up mS_0
        exact hm_iret hx hb hr hlocks hS hH (⟨Or.inr ⟨by rw [hb67]; rw [hb100]; exact (show (2 : Int32) ≠ 0 by decide), ⟨_, rfl⟩, by rw [hb67]; rw [hb100]; exact MW.mk hm102 ⟨⟨h117, h118, h119, h120, h121, h122, h123⟩, ⟨_, _, _, _, _, _, _, h124, h125, h126, h127, h128, h129, h130⟩, h103, ⟨h104, h105, h106, h107, h108, h109, h110, h111, h112⟩, h113, h114, h115, h116⟩⟩, hfr9.k⟩) (Nat.le_of_ble_eq_true rfl) (Nat.le_of_ble_eq_true rfl) dX8_open_65
      · refine lv_iconst (v := 1) hx hb dX8_open_30 (by decide) ?_
        refine lv_goto (tgt := 35) hx hb dX8_open_31 (by decide) ?_
        refine lv_iconst (v := 2) hx hb dX8_open_35 (by decide) ?_
        have hb132 : (decide (0 ≤ v1)) = true := decide_eq_true (Int32.not_lt.mp c99)
        refine W.eq (g2 := F0 m 36 ls [.int 2, .int (bI (decide (0 ≤ v1))), .ref m0]) (by rw [hb132]; rfl) ?_
        refine hm_callV (rest := []) (k := 1) q5_119 q5_121 q1_9 q5_122 q0_17 rfl nm_X8_no rfl hx hb hml hown hts hK hO hS hH hl.1 hm69 (c_X8_no Γ l m0 r 0 (nI np) (nI ng) (nI nt) (nI kp) (nI rr) ck lim dz gd hih mih fh msh msm mso sp rf (decide (0 ≤ v1)) 2 fn68 hm69) ⟨Nat.le_of_ble_eq_true rfl, Nat.le_of_ble_eq_true rfl⟩ ⟨Nat.le_of_ble_eq_true rfl, Nat.le_of_ble_eq_true rfl⟩ rfl (Nat.le_of_ble_eq_true rfl) dX8_open_36 (fun v_ fn133 H locs hp_ hH hS => ?_)
        obtain ⟨rfl, efn133⟩ := hp_
        rw [hb132] at efn133
        refine W.eq (g2 := F0 m 39 ls [.int 0]) (by rw [hb132]; rfl) ?_
        have hm134 : fn133 m0 = some (eM r 0 (nI np) (nI ng) (nI nt) (nI kp) (nI rr) ck lim dz gd hih mih fh msh msm mso sp rf) := by rw [efn133]; exact hm_us
        have h135 : fn133 ((r 0)) = some (eI Γ 4 mon) := by rw [efn133]; exact (hm_un (hm_ne h70 hm69 (fun q => by cases q))).trans h70
        have h136 : fn133 ((r 1)) = some (eJ Γ 8 (fun i => b4 (gs i).2.1)) := by rw [efn133]; exact (hm_un (hm_ne h71 hm69 (fun q => by cases q))).trans h71
        have h137 : fn133 ((r 2)) = some (eI Γ 8 (fun i => nI (gs i).2.2.1)) := by rw [efn133]; exact (hm_un (hm_ne h72 hm69 (fun q => by cases q))).trans h72
        have h138 : fn133 ((r 3)) = some (eI Γ 8 (fun i => nI (gs i).1)) := by rw [efn133]; exact (hm_un (hm_ne h73 hm69 (fun q => by cases q))).trans h73
        have h139 : fn133 ((r 4)) = some (eI Γ 8 (fun i => (gs i).2.2.2.1)) := by rw [efn133]; exact (hm_un (hm_ne h74 hm69 (fun q => by cases q))).trans h74
        have h140 : fn133 ((r 5)) = some (eI Γ 8 (fun i => (gs i).2.2.2.2.1)) := by rw [efn133]; exact (hm_un (hm_ne h75 hm69 (fun q => by cases q))).trans h75
        have h141 : fn133 ((r 6)) = some (eI Γ 8 (fun i => (gs i).2.2.2.2.2.1)) := by rw [efn133]; exact (hm_un (hm_ne h76 hm69 (fun q => by cases q))).trans h76
        have h142 : fn133 ((r 7)) = some (eI Γ 8 (fun i => (gs i).2.2.2.2.2.2.1)) := by rw [efn133]; exact (hm_un (hm_ne h77 hm69 (fun q => by cases q))).trans h77
        have h143 : fn133 ((r 8)) = some (eI Γ 8 (fun i => (gs i).2.2.2.2.2.2.2.1)) := by rw [efn133]; exact (hm_un (hm_ne h78 hm69 (fun q => by cases q))).trans h78
        have h144 : fn133 ((r 9)) = some (eZ Γ 8 (fun i => bI (gs i).2.2.2.2.2.2.2.2)) := by rw [efn133]; exact (hm_un (hm_ne h79 hm69 (fun q => by cases q))).trans h79
        have h145 : fn133 ((r 10)) = some (eJ Γ 60 (fun i => b4 (ts i).2.1)) := by rw [efn133]; exact (hm_un (hm_ne h80 hm69 (fun q => by cases q))).trans h80
        have h146 : fn133 ((r 11)) = some (eI Γ 60 (fun i => nI (ts i).2.2.1)) := by rw [efn133]; exact (hm_un (hm_ne h81 hm69 (fun q => by cases q))).trans h81
        have h147 : fn133 ((r 12)) = some (eI Γ 60 (fun i => nI (ts i).1)) := by rw [efn133]; exact (hm_un (hm_ne h82 hm69 (fun q => by cases q))).trans h82
        have h148 : fn133 ((r 13)) = some (eI Γ 60 (fun i => (ts i).2.2.2)) := by rw [efn133]; exact (hm_un (hm_ne h83 hm69 (fun q => by cases q))).trans h83
        have h149 : fn133 ((r 14)) = some (eJ Γ 64 (fun j => (K j).1)) := by rw [efn133]; exact (hm_un (hm_ne h84 hm69 (fun q => by cases q))).trans h84
        have h150 : fn133 ((r 15)) = some (eI Γ 64 (fun j => (K j).2.1)) := by rw [efn133]; exact (hm_un (hm_ne h85 hm69 (fun q => by cases q))).trans h85
        have h151 : fn133 ((r 16)) = some (eI Γ 64 (fun j => (K j).2.2.1)) := by rw [efn133]; exact (hm_un (hm_ne h86 hm69 (fun q => by cases q))).trans h86
        have h152 : fn133 ((r 17)) = some (eI Γ 64 (fun j => (K j).2.2.2.1)) := by rw [efn133]; exact (hm_un (hm_ne h87 hm69 (fun q => by cases q))).trans h87
        have h153 : fn133 ((r 18)) = some (eI Γ 64 (fun j => (K j).2.2.2.2.1)) := by rw [efn133]; exact (hm_un (hm_ne h88 hm69 (fun q => by cases q))).trans h88
        have h154 : fn133 ((r 19)) = some (eI Γ 64 (fun j => (K j).2.2.2.2.2.1)) := by rw [efn133]; exact (hm_un (hm_ne h89 hm69 (fun q => by cases q))).trans h89
        have h155 : fn133 ((r 20)) = some (eI Γ 64 (fun j => (K j).2.2.2.2.2.2)) := by rw [efn133]; exact (hm_un (hm_ne h90 hm69 (fun q => by cases q))).trans h90
        have h156 : fn133 ((r 21)) = some (eJ Γ 6 pb) := by rw [efn133]; exact (hm_un (hm_ne h91 hm69 (fun q => by cases q))).trans h91
        have h157 : fn133 ((r 22)) = some (eI Γ 6 pz) := by rw [efn133]; exact (hm_un (hm_ne h92 hm69 (fun q => by cases q))).trans h92
        have h158 : fn133 ((r 23)) = some (eI Γ 6 pd) := by rw [efn133]; exact (hm_un (hm_ne h93 hm69 (fun q => by cases q))).trans h93
        have h159 : fn133 ((r 24)) = some (eI Γ 6 pn) := by rw [efn133]; exact (hm_un (hm_ne h94 hm69 (fun q => by cases q))).trans h94
        have h160 : fn133 ((r 25)) = some (eI Γ 6 pe) := by rw [efn133]; exact (hm_un (hm_ne h95 hm69 (fun q => by cases q))).trans h95
        have h161 : fn133 ((r 26)) = some (eI Γ 6 ph) := by rw [efn133]; exact (hm_un (hm_ne h96 hm69 (fun q => by cases q))).trans h96
        have h162 : fn133 ((r 27)) = some (eI Γ 6 pg) := by rw [efn133]; exact (hm_un (hm_ne h97 hm69 (fun q => by cases q))).trans h97
        refine lv_if_ne (tgt := 64) hx hb dX8_open_39 (by decide) (fun c163 => absurd (by decide) c163) (fun _ => ?_)
        refine lv_aload_n hx hb dX8_open_42 rfl (lv_at hl 0 rfl) ?_
        refine lv_aload_n hx hb dX8_open_43 rfl (lv_at hl 0 rfl) ?_
        refine gf_X8_106 hx hb hts hown hK hH hm134 rfl dX8_open_44 ?_
        refine lv_bipush (v := 8) hx hb dX8_open_47 (by decide) ?_
        refine lv_icmp_ge (tgt := 56) hx hb dX8_open_49 (by decide) (fun c164 => ?_) (fun c164 => ?_)
        · refine lv_iconst (v := 0) hx hb dX8_open_56 (by decide) ?_
          refine lv_iconst (v := 3) hx hb dX8_open_57 (by decide) ?_
          have hb165 : (decide (ng < 8)) = false := decide_eq_false (fun q => absurd (nI_lt q (by decide)) (Int32.not_lt.mpr c164))
          refine W.eq (g2 := F0 m 58 ls [.int 3, .int (bI (decide (ng < 8))), .ref m0]) (by rw [hb165]; rfl) ?_
          refine hm_callV (rest := []) (k := 1) q5_119 q5_121 q1_9 q5_122 q0_17 rfl nm_X8_no rfl hx hb hml hown hts hK hO hS hH hl.1 hm134 (c_X8_no Γ l m0 r 0 (nI np) (nI ng) (nI nt) (nI kp) (nI rr) ck lim dz gd hih mih fh msh msm mso sp rf (decide (ng < 8)) 3 fn133 hm134) ⟨Nat.le_of_ble_eq_true rfl, Nat.le_of_ble_eq_true rfl⟩ ⟨Nat.le_of_ble_eq_true rfl, Nat.le_of_ble_eq_true rfl⟩ rfl (Nat.le_of_ble_eq_true rfl) dX8_open_58 (fun v_ fn166 H locs hp_ hH hS => ?_)
          obtain ⟨rfl, efn166⟩ := hp_
          rw [hb165] at efn166
          refine W.eq (g2 := F0 m 61 ls [.int 1]) (by rw [hb165]; rfl) ?_
          have hm167 : fn166 m0 = some (eM r 3 (nI np) (nI ng) (nI nt) (nI kp) (nI rr) ck lim dz gd hih mih fh msh msm mso sp rf) := by rw [efn166]; exact hm_us
          have h168 : fn166 ((r 0)) = some (eI Γ 4 mon) := by rw [efn166]; exact (hm_un (hm_ne h135 hm134 (fun q => by cases q))).trans h135
          have h169 : fn166 ((r 1)) = some (eJ Γ 8 (fun i => b4 (gs i).2.1)) := by rw [efn166]; exact (hm_un (hm_ne h136 hm134 (fun q => by cases q))).trans h136
          have h170 : fn166 ((r 2)) = some (eI Γ 8 (fun i => nI (gs i).2.2.1)) := by rw [efn166]; exact (hm_un (hm_ne h137 hm134 (fun q => by cases q))).trans h137
          have h171 : fn166 ((r 3)) = some (eI Γ 8 (fun i => nI (gs i).1)) := by rw [efn166]; exact (hm_un (hm_ne h138 hm134 (fun q => by cases q))).trans h138
          have h172 : fn166 ((r 4)) = some (eI Γ 8 (fun i => (gs i).2.2.2.1)) := by rw [efn166]; exact (hm_un (hm_ne h139 hm134 (fun q => by cases q))).trans h139
          have h173 : fn166 ((r 5)) = some (eI Γ 8 (fun i => (gs i).2.2.2.2.1)) := by rw [efn166]; exact (hm_un (hm_ne h140 hm134 (fun q => by cases q))).trans h140
          have h174 : fn166 ((r 6)) = some (eI Γ 8 (fun i => (gs i).2.2.2.2.2.1)) := by rw [efn166]; exact (hm_un (hm_ne h141 hm134 (fun q => by cases q))).trans h141
          have h175 : fn166 ((r 7)) = some (eI Γ 8 (fun i => (gs i).2.2.2.2.2.2.1)) := by rw [efn166]; exact (hm_un (hm_ne h142 hm134 (fun q => by cases q))).trans h142
          have h176 : fn166 ((r 8)) = some (eI Γ 8 (fun i => (gs i).2.2.2.2.2.2.2.1)) := by rw [efn166]; exact (hm_un (hm_ne h143 hm134 (fun q => by cases q))).trans h143
          have h177 : fn166 ((r 9)) = some (eZ Γ 8 (fun i => bI (gs i).2.2.2.2.2.2.2.2)) := by rw [efn166]; exact (hm_un (hm_ne h144 hm134 (fun q => by cases q))).trans h144
          have h178 : fn166 ((r 10)) = some (eJ Γ 60 (fun i => b4 (ts i).2.1)) := by rw [efn166]; exact (hm_un (hm_ne h145 hm134 (fun q => by cases q))).trans h145
          have h179 : fn166 ((r 11)) = some (eI Γ 60 (fun i => nI (ts i).2.2.1)) := by rw [efn166]; exact (hm_un (hm_ne h146 hm134 (fun q => by cases q))).trans h146
          have h180 : fn166 ((r 12)) = some (eI Γ 60 (fun i => nI (ts i).1)) := by rw [efn166]; exact (hm_un (hm_ne h147 hm134 (fun q => by cases q))).trans h147
          have h181 : fn166 ((r 13)) = some (eI Γ 60 (fun i => (ts i).2.2.2)) := by rw [efn166]; exact (hm_un (hm_ne h148 hm134 (fun q => by cases q))).trans h148
          have h182 : fn166 ((r 14)) = some (eJ Γ 64 (fun j => (K j).1)) := by rw [efn166]; exact (hm_un (hm_ne h149 hm134 (fun q => by cases q))).trans h149
          have h183 : fn166 ((r 15)) = some (eI Γ 64 (fun j => (K j).2.1)) := by rw [efn166]; exact (hm_un (hm_ne h150 hm134 (fun q => by cases q))).trans h150
          have h184 : fn166 ((r 16)) = some (eI Γ 64 (fun j => (K j).2.2.1)) := by rw [efn166]; exact (hm_un (hm_ne h151 hm134 (fun q => by cases q))).trans h151
          have h185 : fn166 ((r 17)) = some (eI Γ 64 (fun j => (K j).2.2.2.1)) := by rw [efn166]; exact (hm_un (hm_ne h152 hm134 (fun q => by cases q))).trans h152
          have h186 : fn166 ((r 18)) = some (eI Γ 64 (fun j => (K j).2.2.2.2.1)) := by rw [efn166]; exact (hm_un (hm_ne h153 hm134 (fun q => by cases q))).trans h153
          have h187 : fn166 ((r 19)) = some (eI Γ 64 (fun j => (K j).2.2.2.2.2.1)) := by rw [efn166]; exact (hm_un (hm_ne h154 hm134 (fun q => by cases q))).trans h154
          have h188 : fn166 ((r 20)) = some (eI Γ 64 (fun j => (K j).2.2.2.2.2.2)) := by rw [efn166]; exact (hm_un (hm_ne h155 hm134 (fun q => by cases q))).trans h155
          have h189 : fn166 ((r 21)) = some (eJ Γ 6 pb) := by rw [efn166]; exact (hm_un (hm_ne h156 hm134 (fun q => by cases q))).trans h156
          have h190 : fn166 ((r 22)) = some (eI Γ 6 pz) := by rw [efn166]; exact (hm_un (hm_ne h157 hm134 (fun q => by cases q))).trans h157
          have h191 : fn166 ((r 23)) = some (eI Γ 6 pd) := by rw [efn166]; exact (hm_un (hm_ne h158 hm134 (fun q => by cases q))).trans h158
          have h192 : fn166 ((r 24)) = some (eI Γ 6 pn) := by rw [efn166]; exact (hm_un (hm_ne h159 hm134 (fun q => by cases q))).trans h159
          have h193 : fn166 ((r 25)) = some (eI Γ 6 pe) := by rw [efn166]; exact (hm_un (hm_ne h160 hm134 (fun q => by cases q))).trans h160
          have h194 : fn166 ((r 26)) = some (eI Γ 6 ph) := by rw [efn166]; exact (hm_un (hm_ne h161 hm134 (fun q => by cases q))).trans h161
          have h195 : fn166 ((r 27)) = some (eI Γ 6 pg) := by rw [efn166]; exact (hm_un (hm_ne h162 hm134 (fun q => by cases q))).trans h162
          refine lv_if_eq (tgt := 66) hx hb dX8_open_61 (by decide) (fun c196 => absurd c196 (by decide)) (fun _ => ?_)
          refine lv_iconst (v := 0) hx hb dX8_open_64 (by decide) ?_
          have hfr9 : hm_fr (mS m0 r) f fn166 := by
            rw [efn166, efn133, efn68]
            exact (((hm_fr.rf (S := mS m0 r)).up mS_0).up mS_0).up mS_0
          exact hm_iret hx hb hr hlocks hS hH (⟨Or.inr ⟨by rw [hb67]; rw [hb132]; rw [hb165]; exact (show (3 : Int32) ≠ 0 by decide), ⟨_, rfl⟩, by rw [hb67]; rw [hb132]; rw [hb165]; exact MW.mk hm167 ⟨⟨h182, h183, h184, h185, h186, h187, h188⟩, ⟨_, _, _, _, _, _, _, h189, h190, h191, h192, h193, h194, h195⟩, h168, ⟨h169, h170, h171, h172, h173, h174, h175, h176, h177⟩, h178, h179, h180, h181⟩⟩, hfr9.k⟩) (Nat.le_of_ble_eq_true rfl) (Nat.le_of_ble_eq_true rfl) dX8_open_65
        · refine lv_iconst (v := 1) hx hb dX8_open_52 (by decide) ?_
          refine lv_goto (tgt := 57) hx hb dX8_open_53 (by decide) ?_
          refine lv_iconst (v := 3) hx hb dX8_open_57 (by decide) ?_
          have hb197 : (decide (ng < 8)) = true := decide_eq_true ((nI_ltI (by omega) (by decide)).mp (Int32.not_le.mp c164))
          refine W.eq (g2 := F0 m 58 ls [.int 3, .int (bI (decide (ng < 8))), .ref m0]) (by rw [hb197]; rfl) ?_
          refine hm_callV (rest := []) (k := 1) q5_119 q5_121 q1_9 q5_122 q0_17 rfl nm_X8_no rfl hx hb hml hown hts hK hO hS hH hl.1 hm134 (c_X8_no Γ l m0 r 0 (nI np) (nI ng) (nI nt) (nI kp) (nI rr) ck lim dz gd hih mih fh msh msm mso sp rf (decide (ng < 8)) 3 fn133 hm134) ⟨Nat.le_of_ble_eq_true rfl, Nat.le_of_ble_eq_true rfl⟩ ⟨Nat.le_of_ble_eq_true rfl, Nat.le_of_ble_eq_true rfl⟩ rfl (Nat.le_of_ble_eq_true rfl) dX8_open_58 (fun v_ fn198 H locs hp_ hH hS => ?_)
          obtain ⟨rfl, efn198⟩ := hp_
          rw [hb197] at efn198
          refine W.eq (g2 := F0 m 61 ls [.int 0]) (by rw [hb197]; rfl) ?_
          have hm199 : fn198 m0 = some (eM r 0 (nI np) (nI ng) (nI nt) (nI kp) (nI rr) ck lim dz gd hih mih fh msh msm mso sp rf) := by rw [efn198]; exact hm_us
          have h200 : fn198 ((r 0)) = some (eI Γ 4 mon) := by rw [efn198]; exact (hm_un (hm_ne h135 hm134 (fun q => by cases q))).trans h135
          have h201 : fn198 ((r 1)) = some (eJ Γ 8 (fun i => b4 (gs i).2.1)) := by rw [efn198]; exact (hm_un (hm_ne h136 hm134 (fun q => by cases q))).trans h136
          have h202 : fn198 ((r 2)) = some (eI Γ 8 (fun i => nI (gs i).2.2.1)) := by rw [efn198]; exact (hm_un (hm_ne h137 hm134 (fun q => by cases q))).trans h137
          have h203 : fn198 ((r 3)) = some (eI Γ 8 (fun i => nI (gs i).1)) := by rw [efn198]; exact (hm_un (hm_ne h138 hm134 (fun q => by cases q))).trans h138
          have h204 : fn198 ((r 4)) = some (eI Γ 8 (fun i => (gs i).2.2.2.1)) := by rw [efn198]; exact (hm_un (hm_ne h139 hm134 (fun q => by cases q))).trans h139
          have h205 : fn198 ((r 5)) = some (eI Γ 8 (fun i => (gs i).2.2.2.2.1)) := by rw [efn198]; exact (hm_un (hm_ne h140 hm134 (fun q => by cases q))).trans h140
          have h206 : fn198 ((r 6)) = some (eI Γ 8 (fun i => (gs i).2.2.2.2.2.1)) := by rw [efn198]; exact (hm_un (hm_ne h141 hm134 (fun q => by cases q))).trans h141
          have h207 : fn198 ((r 7)) = some (eI Γ 8 (fun i => (gs i).2.2.2.2.2.2.1)) := by rw [efn198]; exact (hm_un (hm_ne h142 hm134 (fun q => by cases q))).trans h142
          have h208 : fn198 ((r 8)) = some (eI Γ 8 (fun i => (gs i).2.2.2.2.2.2.2.1)) := by rw [efn198]; exact (hm_un (hm_ne h143 hm134 (fun q => by cases q))).trans h143
          have h209 : fn198 ((r 9)) = some (eZ Γ 8 (fun i => bI (gs i).2.2.2.2.2.2.2.2)) := by rw [efn198]; exact (hm_un (hm_ne h144 hm134 (fun q => by cases q))).trans h144
          have h210 : fn198 ((r 10)) = some (eJ Γ 60 (fun i => b4 (ts i).2.1)) := by rw [efn198]; exact (hm_un (hm_ne h145 hm134 (fun q => by cases q))).trans h145
          have h211 : fn198 ((r 11)) = some (eI Γ 60 (fun i => nI (ts i).2.2.1)) := by rw [efn198]; exact (hm_un (hm_ne h146 hm134 (fun q => by cases q))).trans h146
          have h212 : fn198 ((r 12)) = some (eI Γ 60 (fun i => nI (ts i).1)) := by rw [efn198]; exact (hm_un (hm_ne h147 hm134 (fun q => by cases q))).trans h147
          have h213 : fn198 ((r 13)) = some (eI Γ 60 (fun i => (ts i).2.2.2)) := by rw [efn198]; exact (hm_un (hm_ne h148 hm134 (fun q => by cases q))).trans h148
          have h214 : fn198 ((r 14)) = some (eJ Γ 64 (fun j => (K j).1)) := by rw [efn198]; exact (hm_un (hm_ne h149 hm134 (fun q => by cases q))).trans h149
          have h215 : fn198 ((r 15)) = some (eI Γ 64 (fun j => (K j).2.1)) := by rw [efn198]; exact (hm_un (hm_ne h150 hm134 (fun q => by cases q))).trans h150
          have h216 : fn198 ((r 16)) = some (eI Γ 64 (fun j => (K j).2.2.1)) := by rw [efn198]; exact (hm_un (hm_ne h151 hm134 (fun q => by cases q))).trans h151
          have h217 : fn198 ((r 17)) = some (eI Γ 64 (fun j => (K j).2.2.2.1)) := by rw [efn198]; exact (hm_un (hm_ne h152 hm134 (fun q => by cases q))).trans h152
          have h218 : fn198 ((r 18)) = some (eI Γ 64 (fun j => (K j).2.2.2.2.1)) := by rw [efn198]; exact (hm_un (hm_ne h153 hm134 (fun q => by cases q))).trans h153
          have h219 : fn198 ((r 19)) = some (eI Γ 64 (fun j => (K j).2.2.2.2.2.1)) := by rw [efn198]; exact (hm_un (hm_ne h154 hm134 (fun q => by cases q))).trans h154
          have h220 : fn198 ((r 20)) = some (eI Γ 64 (fun j => (K j).2.2.2.2.2.2)) := by rw [efn198]; exact (hm_un (hm_ne h155 hm134 (fun q => by cases q))).trans h155
          have h221 : fn198 ((r 21)) = some (eJ Γ 6 pb) := by rw [efn198]; exact (hm_un (hm_ne h156 hm134 (fun q => by cases q))).trans h156
          have h222 : fn198 ((r 22)) = some (eI Γ 6 pz) := by rw [efn198]; exact (hm_un (hm_ne h157 hm134 (fun q => by cases q))).trans h157
          have h223 : fn198 ((r 23)) = some (eI Γ 6 pd) := by rw [efn198]; exact (hm_un (hm_ne h158 hm134 (fun q => by cases q))).trans h158
          have h224 : fn198 ((r 24)) = some (eI Γ 6 pn) := by rw [efn198]; exact (hm_un (hm_ne h159 hm134 (fun q => by cases q))).trans h159
          have h225 : fn198 ((r 25)) = some (eI Γ 6 pe) := by rw [efn198]; exact (hm_un (hm_ne h160 hm134 (fun q => by cases q))).trans h160
          have h226 : fn198 ((r 26)) = some (eI Γ 6 ph) := by rw [efn198]; exact (hm_un (hm_ne h161 hm134 (fun q => by cases q))).trans h161
          have h227 : fn198 ((r 27)) = some (eI Γ 6 pg) := by rw [efn198]; exact (hm_un (hm_ne h162 hm134 (fun q => by cases q))).trans h162
          refine lv_if_eq (tgt := 66) hx hb dX8_open_61 (by decide) (fun _ => ?_) (fun c228 => absurd (by decide) c228)
          have hng8 : ng < 8 := of_decide_eq_true hb197
          obtain ⟨j, hj, rfl⟩ := (inB_iff (by omega)).mp hb67
          obtain ⟨z, hz, rfl⟩ := nI_of c99
          have hij : ix (nI j) = j := ix_nI (by omega)
          have hiz : ix (nI z) = z := ix_nI hz
          refine lv_aload_n hx hb dX8_open_66 rfl (lv_at hl 0 rfl) ?_
          refine gf_X8_20 hx hb hts hown hK hH hm199 rfl dX8_open_67 ?_
          refine lv_aload_n hx hb dX8_open_70 rfl (lv_at hl 0 rfl) ?_
          refine gf_X8_106 hx hb hts hown hK hH hm199 rfl dX8_open_71 ?_
          refine lv_iload_n hx hb dX8_open_74 rfl (lv_at hl 1 rfl) ?_
          refine hm_iast hx hb hK hO hS hH h203 (vp_in_nI hng8 (by decide)) dX8_open_75 (fun H locs hH hS => ?_)
          rw [nI_clamp (n := ng) (by omega)] at hH
          obtain ⟨f229, ef229⟩ : ∃ zz_, zz_ = hm_up fn198 ((r 3)) (eI Γ 8 (upd (fun i => nI (gs i).1) ng (nI j))) := ⟨_, rfl⟩
          have hH : hm_H Γ f229 H := by rw [ef229]; exact hH
          have h230 : f229 ((r 3)) = some (eI Γ 8 (upd (fun i => nI (gs i).1) ng (nI j))) := by rw [ef229]; exact hm_us
          have h231 : f229 m0 = some (eM r 0 (nI np) (nI ng) (nI nt) (nI kp) (nI rr) ck lim dz gd hih mih fh msh msm mso sp rf) := by rw [ef229]; exact (hm_un (hm_ne hm199 h203 (fun q => by cases q))).trans hm199
          have h232 : f229 ((r 0)) = some (eI Γ 4 mon) := by rw [ef229]; exact (hm_un (hrI 0 3 (by decide) (by decide) (by decide))).trans h200
          have h233 : f229 ((r 1)) = some (eJ Γ 8 (fun i => b4 (gs i).2.1)) := by rw [ef229]; exact (hm_un (hrI 1 3 (by decide) (by decide) (by decide))).trans h201
          have h234 : f229 ((r 2)) = some (eI Γ 8 (fun i => nI (gs i).2.2.1)) := by rw [ef229]; exact (hm_un (hrI 2 3 (by decide) (by decide) (by decide))).trans h202
          have h235 : f229 ((r 4)) = some (eI Γ 8 (fun i => (gs i).2.2.2.1)) := by rw [ef229]; exact (hm_un (hrI 4 3 (by decide) (by decide) (by decide))).trans h204
          have h236 : f229 ((r 5)) = some (eI Γ 8 (fun i => (gs i).2.2.2.2.1)) := by rw [ef229]; exact (hm_un (hrI 5 3 (by decide) (by decide) (by decide))).trans h205
          have h237 : f229 ((r 6)) = some (eI Γ 8 (fun i => (gs i).2.2.2.2.2.1)) := by rw [ef229]; exact (hm_un (hrI 6 3 (by decide) (by decide) (by decide))).trans h206
          have h238 : f229 ((r 7)) = some (eI Γ 8 (fun i => (gs i).2.2.2.2.2.2.1)) := by rw [ef229]; exact (hm_un (hrI 7 3 (by decide) (by decide) (by decide))).trans h207
          have h239 : f229 ((r 8)) = some (eI Γ 8 (fun i => (gs i).2.2.2.2.2.2.2.1)) := by rw [ef229]; exact (hm_un (hrI 8 3 (by decide) (by decide) (by decide))).trans h208
          have h240 : f229 ((r 9)) = some (eZ Γ 8 (fun i => bI (gs i).2.2.2.2.2.2.2.2)) := by rw [ef229]; exact (hm_un (hrI 9 3 (by decide) (by decide) (by decide))).trans h209
          have h241 : f229 ((r 10)) = some (eJ Γ 60 (fun i => b4 (ts i).2.1)) := by rw [ef229]; exact (hm_un (hrI 10 3 (by decide) (by decide) (by decide))).trans h210
          have h242 : f229 ((r 11)) = some (eI Γ 60 (fun i => nI (ts i).2.2.1)) := by rw [ef229]; exact (hm_un (hrI 11 3 (by decide) (by decide) (by decide))).trans h211
          have h243 : f229 ((r 12)) = some (eI Γ 60 (fun i => nI (ts i).1)) := by rw [ef229]; exact (hm_un (hrI 12 3 (by decide) (by decide) (by decide))).trans h212
          have h244 : f229 ((r 13)) = some (eI Γ 60 (fun i => (ts i).2.2.2)) := by rw [ef229]; exact (hm_un (hrI 13 3 (by decide) (by decide) (by decide))).trans h213
          have h245 : f229 ((r 14)) = some (eJ Γ 64 (fun j => (K j).1)) := by rw [ef229]; exact (hm_un (hrI 14 3 (by decide) (by decide) (by decide))).trans h214
          have h246 : f229 ((r 15)) = some (eI Γ 64 (fun j => (K j).2.1)) := by rw [ef229]; exact (hm_un (hrI 15 3 (by decide) (by decide) (by decide))).trans h215
          have h247 : f229 ((r 16)) = some (eI Γ 64 (fun j => (K j).2.2.1)) := by rw [ef229]; exact (hm_un (hrI 16 3 (by decide) (by decide) (by decide))).trans h216
          have h248 : f229 ((r 17)) = some (eI Γ 64 (fun j => (K j).2.2.2.1)) := by rw [ef229]; exact (hm_un (hrI 17 3 (by decide) (by decide) (by decide))).trans h217
          have h249 : f229 ((r 18)) = some (eI Γ 64 (fun j => (K j).2.2.2.2.1)) := by rw [ef229]; exact (hm_un (hrI 18 3 (by decide) (by decide) (by decide))).trans h218
          have h250 : f229 ((r 19)) = some (eI Γ 64 (fun j => (K j).2.2.2.2.2.1)) := by rw [ef229]; exact (hm_un (hrI 19 3 (by decide) (by decide) (by decide))).trans h219
          have h251 : f229 ((r 20)) = some (eI Γ 64 (fun j => (K j).2.2.2.2.2.2)) := by rw [ef229]; exact (hm_un (hrI 20 3 (by decide) (by decide) (by decide))).trans h220
          have h252 : f229 ((r 21)) = some (eJ Γ 6 pb) := by rw [ef229]; exact (hm_un (hrI 21 3 (by decide) (by decide) (by decide))).trans h221
          have h253 : f229 ((r 22)) = some (eI Γ 6 pz) := by rw [ef229]; exact (hm_un (hrI 22 3 (by decide) (by decide) (by decide))).trans h222
          have h254 : f229 ((r 23)) = some (eI Γ 6 pd) := by rw [ef229]; exact (hm_un (hrI 23 3 (by decide) (by decide) (by decide))).trans h223
          have h255 : f229 ((r 24)) = some (eI Γ 6 pn) := by rw [ef229]; exact (hm_un (hrI 24 3 (by decide) (by decide) (by decide))).trans h224
          have h256 : f229 ((r 25)) = some (eI Γ 6 pe) := by rw [ef229]; exact (hm_un (hrI 25 3 (by decide) (by decide) (by decide))).trans h225
          have h257 : f229 ((r 26)) = some (eI Γ 6 ph) := by rw [ef229]; exact (hm_un (hrI 26 3 (by decide) (by decide) (by decide))).trans h226
          have h258 : f229 ((r 27)) = some (eI Γ 6 pg) := by rw [ef229]; exact (hm_un (hrI 27 3 (by decide) (by decide) (by decide))).trans h227
          refine lv_aload_n hx hb dX8_open_76 rfl (lv_at hl 0 rfl) ?_
          refine lv_lconst (v := 0) hx hb dX8_open_77 (by decide) ?_
          refine lv_iload_n hx hb dX8_open_78 rfl (lv_at hl 2 rfl) ?_
          rw [show (0 : Int64) = b4 (fun _ => 0) from b4_0]
          refine hm_callV (rest := []) (k := 2) q5_127 q5_129 q1_9 q5_130 q0_18 rfl nm_X8_drawn rfl hx hb hml hown hts hK hO hS hH hl.1 h231 (c_X8_drawn Γ l m0 r 0 (nI np) (nI ng) (nI nt) (nI kp) (nI rr) ck lim dz gd hih mih fh msh msm mso sp rf (fun _ => 0) z f229 h231 (fun _ _ => (show 0 < 16 by decide)) hz (by decide)) ⟨Nat.le_of_ble_eq_true rfl, Nat.le_of_ble_eq_true rfl⟩ ⟨Nat.le_of_ble_eq_true rfl, Nat.le_of_ble_eq_true rfl⟩ rfl (Nat.le_of_ble_eq_true rfl) dX8_open_79 (fun v_ fn259 H locs hp_ hH hS => ?_)
          obtain ⟨rfl, efn259⟩ := hp_
          refine W.eq (g2 := F0 m 82 ls [.long (b4 (drawT (fun _ => 0) z))]) rfl ?_
          have hmfn259 : fn259 m0 = some (eM r 0 (nI np) (nI ng) (nI nt) (nI kp) (nI rr) ck lim (nI (nxt (nxt z))) gd hih mih fh msh msm mso sp rf) := by rw [efn259]; exact hm_us
          have h260 : fn259 ((r 0)) = some (eI Γ 4 mon) := by rw [efn259]; exact (hm_un (hm_ne h232 h231 (fun q => by cases q))).trans h232
          have h261 : fn259 ((r 1)) = some (eJ Γ 8 (fun i => b4 (gs i).2.1)) := by rw [efn259]; exact (hm_un (hm_ne h233 h231 (fun q => by cases q))).trans h233
          have h262 : fn259 ((r 2)) = some (eI Γ 8 (fun i => nI (gs i).2.2.1)) := by rw [efn259]; exact (hm_un (hm_ne h234 h231 (fun q => by cases q))).trans h234
          have h263 : fn259 ((r 3)) = some (eI Γ 8 (upd (fun i => nI (gs i).1) ng (nI j))) := by rw [efn259]; exact (hm_un (hm_ne h230 h231 (fun q => by cases q))).trans h230
          have h264 : fn259 ((r 4)) = some (eI Γ 8 (fun i => (gs i).2.2.2.1)) := by rw [efn259]; exact (hm_un (hm_ne h235 h231 (fun q => by cases q))).trans h235
          have h265 : fn259 ((r 5)) = some (eI Γ 8 (fun i => (gs i).2.2.2.2.1)) := by rw [efn259]; exact (hm_un (hm_ne h236 h231 (fun q => by cases q))).trans h236
          have h266 : fn259 ((r 6)) = some (eI Γ 8 (fun i => (gs i).2.2.2.2.2.1)) := by rw [efn259]; exact (hm_un (hm_ne h237 h231 (fun q => by cases q))).trans h237
          have h267 : fn259 ((r 7)) = some (eI Γ 8 (fun i => (gs i).2.2.2.2.2.2.1)) := by rw [efn259]; exact (hm_un (hm_ne h238 h231 (fun q => by cases q))).trans h238
          have h268 : fn259 ((r 8)) = some (eI Γ 8 (fun i => (gs i).2.2.2.2.2.2.2.1)) := by rw [efn259]; exact (hm_un (hm_ne h239 h231 (fun q => by cases q))).trans h239
          have h269 : fn259 ((r 9)) = some (eZ Γ 8 (fun i => bI (gs i).2.2.2.2.2.2.2.2)) := by rw [efn259]; exact (hm_un (hm_ne h240 h231 (fun q => by cases q))).trans h240
          have h270 : fn259 ((r 10)) = some (eJ Γ 60 (fun i => b4 (ts i).2.1)) := by rw [efn259]; exact (hm_un (hm_ne h241 h231 (fun q => by cases q))).trans h241
          have h271 : fn259 ((r 11)) = some (eI Γ 60 (fun i => nI (ts i).2.2.1)) := by rw [efn259]; exact (hm_un (hm_ne h242 h231 (fun q => by cases q))).trans h242
          have h272 : fn259 ((r 12)) = some (eI Γ 60 (fun i => nI (ts i).1)) := by rw [efn259]; exact (hm_un (hm_ne h243 h231 (fun q => by cases q))).trans h243
          have h273 : fn259 ((r 13)) = some (eI Γ 60 (fun i => (ts i).2.2.2)) := by rw [efn259]; exact (hm_un (hm_ne h244 h231 (fun q => by cases q))).trans h244
          have h274 : fn259 ((r 14)) = some (eJ Γ 64 (fun j => (K j).1)) := by rw [efn259]; exact (hm_un (hm_ne h245 h231 (fun q => by cases q))).trans h245
          have h275 : fn259 ((r 15)) = some (eI Γ 64 (fun j => (K j).2.1)) := by rw [efn259]; exact (hm_un (hm_ne h246 h231 (fun q => by cases q))).trans h246
          have h276 : fn259 ((r 16)) = some (eI Γ 64 (fun j => (K j).2.2.1)) := by rw [efn259]; exact (hm_un (hm_ne h247 h231 (fun q => by cases q))).trans h247
          have h277 : fn259 ((r 17)) = some (eI Γ 64 (fun j => (K j).2.2.2.1)) := by rw [efn259]; exact (hm_un (hm_ne h248 h231 (fun q => by cases q))).trans h248
          have h278 : fn259 ((r 18)) = some (eI Γ 64 (fun j => (K j).2.2.2.2.1)) := by rw [efn259]; exact (hm_un (hm_ne h249 h231 (fun q => by cases q))).trans h249
          have h279 : fn259 ((r 19)) = some (eI Γ 64 (fun j => (K j).2.2.2.2.2.1)) := by rw [efn259]; exact (hm_un (hm_ne h250 h231 (fun q => by cases q))).trans h250
          have h280 : fn259 ((r 20)) = some (eI Γ 64 (fun j => (K j).2.2.2.2.2.2)) := by rw [efn259]; exact (hm_un (hm_ne h251 h231 (fun q => by cases q))).trans h251
          have h281 : fn259 ((r 21)) = some (eJ Γ 6 pb) := by rw [efn259]; exact (hm_un (hm_ne h252 h231 (fun q => by cases q))).trans h252
          have h282 : fn259 ((r 22)) = some (eI Γ 6 pz) := by rw [efn259]; exact (hm_un (hm_ne h253 h231 (fun q => by cases q))).trans h253
          have h283 : fn259 ((r 23)) = some (eI Γ 6 pd) := by rw [efn259]; exact (hm_un (hm_ne h254 h231 (fun q => by cases q))).trans h254
          have h284 : fn259 ((r 24)) = some (eI Γ 6 pn) := by rw [efn259]; exact (hm_un (hm_ne h255 h231 (fun q => by cases q))).trans h255
          have h285 : fn259 ((r 25)) = some (eI Γ 6 pe) := by rw [efn259]; exact (hm_un (hm_ne h256 h231 (fun q => by cases q))).trans h256
          have h286 : fn259 ((r 26)) = some (eI Γ 6 ph) := by rw [efn259]; exact (hm_un (hm_ne h257 h231 (fun q => by cases q))).trans h257
          have h287 : fn259 ((r 27)) = some (eI Γ 6 pg) := by rw [efn259]; exact (hm_un (hm_ne h258 h231 (fun q => by cases q))).trans h258
          refine lv_lstore_n (lv' := [(3, .long (b4 (drawT (fun _ => 0) z))), (0, .ref m0), (1, .int (nI j)), (2, .int (nI z))]) hx hb dX8_open_82 rfl hl (by decide) rfl (fun ls hl => ?_)
          refine lv_aload_n hx hb dX8_open_83 rfl (lv_at hl 1 rfl) ?_
          refine gf_X8_13 hx hb hts hown hK hH hmfn259 rfl dX8_open_84 ?_
          refine lv_aload_n hx hb dX8_open_87 rfl (lv_at hl 1 rfl) ?_
          refine gf_X8_106 hx hb hts hown hK hH hmfn259 rfl dX8_open_88 ?_
          refine lv_aload_n hx hb dX8_open_91 rfl (lv_at hl 1 rfl) ?_
          refine lv_lload_n hx hb dX8_open_92 rfl (lv_at hl 0 rfl) ?_
          refine lv_aload_n hx hb dX8_open_93 rfl (lv_at hl 1 rfl) ?_
          refine gf_X8_135 hx hb hts hown hK hH hmfn259 rfl dX8_open_94 ?_
          refine hm_callV (rest := [.int (nI ng), .ref ((r 1))]) (k := 2) q5_127 q5_129 q1_9 q5_130 q0_18 rfl nm_X8_drawn rfl hx hb hml hown hts hK hO hS hH hl.1 hmfn259 (c_X8_drawn Γ l m0 r 0 (nI np) (nI ng) (nI nt) (nI kp) (nI rr) ck lim (nI (nxt (nxt z))) gd hih mih fh msh msm mso sp rf (drawT (fun _ => 0) z) (nxt (nxt z)) fn259 hmfn259 (new_tl z) (nxt_lt _) (new_gap z)) ⟨Nat.le_of_ble_eq_true rfl, Nat.le_of_ble_eq_true rfl⟩ ⟨Nat.le_of_ble_eq_true rfl, Nat.le_of_ble_eq_true rfl⟩ rfl (Nat.le_of_ble_eq_true rfl) dX8_open_97 (fun v_ fn288 H locs hp_ hH hS => ?_)
          obtain ⟨rfl, efn288⟩ := hp_
          refine W.eq (g2 := F0 m 100 ls [.long (b4 (newB z)), .int (nI ng), .ref ((r 1))]) rfl ?_
          have hmfn288 : fn288 m0 = some (eM r 0 (nI np) (nI ng) (nI nt) (nI kp) (nI rr) ck lim (nI (newZ z)) gd hih mih fh msh msm mso sp rf) := by rw [efn288]; exact hm_us
          have h289 : fn288 ((r 0)) = some (eI Γ 4 mon) := by rw [efn288]; exact (hm_un (hm_ne h260 hmfn259 (fun q => by cases q))).trans h260
          have h290 : fn288 ((r 1)) = some (eJ Γ 8 (fun i => b4 (gs i).2.1)) := by rw [efn288]; exact (hm_un (hm_ne h261 hmfn259 (fun q => by cases q))).trans h261
          have h291 : fn288 ((r 2)) = some (eI Γ 8 (fun i => nI (gs i).2.2.1)) := by rw [efn288]; exact (hm_un (hm_ne h262 hmfn259 (fun q => by cases q))).trans h262
          have h292 : fn288 ((r 3)) = some (eI Γ 8 (upd (fun i => nI (gs i).1) ng (nI j))) := by rw [efn288]; exact (hm_un (hm_ne h263 hmfn259 (fun q => by cases q))).trans h263
          have h293 : fn288 ((r 4)) = some (eI Γ 8 (fun i => (gs i).2.2.2.1)) := by rw [efn288]; exact (hm_un (hm_ne h264 hmfn259 (fun q => by cases q))).trans h264
          have h294 : fn288 ((r 5)) = some (eI Γ 8 (fun i => (gs i).2.2.2.2.1)) := by rw [efn288]; exact (hm_un (hm_ne h265 hmfn259 (fun q => by cases q))).trans h265
          have h295 : fn288 ((r 6)) = some (eI Γ 8 (fun i => (gs i).2.2.2.2.2.1)) := by rw [efn288]; exact (hm_un (hm_ne h266 hmfn259 (fun q => by cases q))).trans h266
          have h296 : fn288 ((r 7)) = some (eI Γ 8 (fun i => (gs i).2.2.2.2.2.2.1)) := by rw [efn288]; exact (hm_un (hm_ne h267 hmfn259 (fun q => by cases q))).trans h267
          have h297 : fn288 ((r 8)) = some (eI Γ 8 (fun i => (gs i).2.2.2.2.2.2.2.1)) := by rw [efn288]; exact (hm_un (hm_ne h268 hmfn259 (fun q => by cases q))).trans h268
          have h298 : fn288 ((r 9)) = some (eZ Γ 8 (fun i => bI (gs i).2.2.2.2.2.2.2.2)) := by rw [efn288]; exact (hm_un (hm_ne h269 hmfn259 (fun q => by cases q))).trans h269
          have h299 : fn288 ((r 10)) = some (eJ Γ 60 (fun i => b4 (ts i).2.1)) := by rw [efn288]; exact (hm_un (hm_ne h270 hmfn259 (fun q => by cases q))).trans h270
          have h300 : fn288 ((r 11)) = some (eI Γ 60 (fun i => nI (ts i).2.2.1)) := by rw [efn288]; exact (hm_un (hm_ne h271 hmfn259 (fun q => by cases q))).trans h271
          have h301 : fn288 ((r 12)) = some (eI Γ 60 (fun i => nI (ts i).1)) := by rw [efn288]; exact (hm_un (hm_ne h272 hmfn259 (fun q => by cases q))).trans h272
          have h302 : fn288 ((r 13)) = some (eI Γ 60 (fun i => (ts i).2.2.2)) := by rw [efn288]; exact (hm_un (hm_ne h273 hmfn259 (fun q => by cases q))).trans h273
          have h303 : fn288 ((r 14)) = some (eJ Γ 64 (fun j => (K j).1)) := by rw [efn288]; exact (hm_un (hm_ne h274 hmfn259 (fun q => by cases q))).trans h274
          have h304 : fn288 ((r 15)) = some (eI Γ 64 (fun j => (K j).2.1)) := by rw [efn288]; exact (hm_un (hm_ne h275 hmfn259 (fun q => by cases q))).trans h275
          have h305 : fn288 ((r 16)) = some (eI Γ 64 (fun j => (K j).2.2.1)) := by rw [efn288]; exact (hm_un (hm_ne h276 hmfn259 (fun q => by cases q))).trans h276
          have h306 : fn288 ((r 17)) = some (eI Γ 64 (fun j => (K j).2.2.2.1)) := by rw [efn288]; exact (hm_un (hm_ne h277 hmfn259 (fun q => by cases q))).trans h277
          have h307 : fn288 ((r 18)) = some (eI Γ 64 (fun j => (K j).2.2.2.2.1)) := by rw [efn288]; exact (hm_un (hm_ne h278 hmfn259 (fun q => by cases q))).trans h278
          have h308 : fn288 ((r 19)) = some (eI Γ 64 (fun j => (K j).2.2.2.2.2.1)) := by rw [efn288]; exact (hm_un (hm_ne h279 hmfn259 (fun q => by cases q))).trans h279
          have h309 : fn288 ((r 20)) = some (eI Γ 64 (fun j => (K j).2.2.2.2.2.2)) := by rw [efn288]; exact (hm_un (hm_ne h280 hmfn259 (fun q => by cases q))).trans h280
          have h310 : fn288 ((r 21)) = some (eJ Γ 6 pb) := by rw [efn288]; exact (hm_un (hm_ne h281 hmfn259 (fun q => by cases q))).trans h281
          have h311 : fn288 ((r 22)) = some (eI Γ 6 pz) := by rw [efn288]; exact (hm_un (hm_ne h282 hmfn259 (fun q => by cases q))).trans h282
          have h312 : fn288 ((r 23)) = some (eI Γ 6 pd) := by rw [efn288]; exact (hm_un (hm_ne h283 hmfn259 (fun q => by cases q))).trans h283
          have h313 : fn288 ((r 24)) = some (eI Γ 6 pn) := by rw [efn288]; exact (hm_un (hm_ne h284 hmfn259 (fun q => by cases q))).trans h284
          have h314 : fn288 ((r 25)) = some (eI Γ 6 pe) := by rw [efn288]; exact (hm_un (hm_ne h285 hmfn259 (fun q => by cases q))).trans h285
          have h315 : fn288 ((r 26)) = some (eI Γ 6 ph) := by rw [efn288]; exact (hm_un (hm_ne h286 hmfn259 (fun q => by cases q))).trans h286
          have h316 : fn288 ((r 27)) = some (eI Γ 6 pg) := by rw [efn288]; exact (hm_un (hm_ne h287 hmfn259 (fun q => by cases q))).trans h287
          refine hm_last hx hb hK hO hS hH h290 (vp_in_nI hng8 (by decide)) dX8_open_100 (fun H locs hH hS => ?_)
          rw [nI_clamp (n := ng) (by omega)] at hH
          obtain ⟨f317, ef317⟩ : ∃ zz_, zz_ = hm_up fn288 ((r 1)) (eJ Γ 8 (vp_updL (fun i => b4 (gs i).2.1) ng (b4 (newB z)))) := ⟨_, rfl⟩
          have hH : hm_H Γ f317 H := by rw [ef317]; exact hH
          have h318 : f317 ((r 1)) = some (eJ Γ 8 (vp_updL (fun i => b4 (gs i).2.1) ng (b4 (newB z)))) := by rw [ef317]; exact hm_us
          have h319 : f317 m0 = some (eM r 0 (nI np) (nI ng) (nI nt) (nI kp) (nI rr) ck lim (nI (newZ z)) gd hih mih fh msh msm mso sp rf) := by rw [ef317]; exact (hm_un (hm_ne hmfn288 h290 (fun q => by cases q))).trans hmfn288
          have h320 : f317 ((r 0)) = some (eI Γ 4 mon) := by rw [ef317]; exact (hm_un (hrI 0 1 (by decide) (by decide) (by decide))).trans h289
          have h321 : f317 ((r 2)) = some (eI Γ 8 (fun i => nI (gs i).2.2.1)) := by rw [ef317]; exact (hm_un (hrI 2 1 (by decide) (by decide) (by decide))).trans h291
          have h322 : f317 ((r 3)) = some (eI Γ 8 (upd (fun i => nI (gs i).1) ng (nI j))) := by rw [ef317]; exact (hm_un (hrI 3 1 (by decide) (by decide) (by decide))).trans h292
          have h323 : f317 ((r 4)) = some (eI Γ 8 (fun i => (gs i).2.2.2.1)) := by rw [ef317]; exact (hm_un (hrI 4 1 (by decide) (by decide) (by decide))).trans h293
          have h324 : f317 ((r 5)) = some (eI Γ 8 (fun i => (gs i).2.2.2.2.1)) := by rw [ef317]; exact (hm_un (hrI 5 1 (by decide) (by decide) (by decide))).trans h294
          have h325 : f317 ((r 6)) = some (eI Γ 8 (fun i => (gs i).2.2.2.2.2.1)) := by rw [ef317]; exact (hm_un (hrI 6 1 (by decide) (by decide) (by decide))).trans h295
          have h326 : f317 ((r 7)) = some (eI Γ 8 (fun i => (gs i).2.2.2.2.2.2.1)) := by rw [ef317]; exact (hm_un (hrI 7 1 (by decide) (by decide) (by decide))).trans h296
          have h327 : f317 ((r 8)) = some (eI Γ 8 (fun i => (gs i).2.2.2.2.2.2.2.1)) := by rw [ef317]; exact (hm_un (hrI 8 1 (by decide) (by decide) (by decide))).trans h297
          have h328 : f317 ((r 9)) = some (eZ Γ 8 (fun i => bI (gs i).2.2.2.2.2.2.2.2)) := by rw [ef317]; exact (hm_un (hrI 9 1 (by decide) (by decide) (by decide))).trans h298
          have h329 : f317 ((r 10)) = some (eJ Γ 60 (fun i => b4 (ts i).2.1)) := by rw [ef317]; exact (hm_un (hrI 10 1 (by decide) (by decide) (by decide))).trans h299
          have h330 : f317 ((r 11)) = some (eI Γ 60 (fun i => nI (ts i).2.2.1)) := by rw [ef317]; exact (hm_un (hrI 11 1 (by decide) (by decide) (by decide))).trans h300
          have h331 : f317 ((r 12)) = some (eI Γ 60 (fun i => nI (ts i).1)) := by rw [ef317]; exact (hm_un (hrI 12 1 (by decide) (by decide) (by decide))).trans h301
          have h332 : f317 ((r 13)) = some (eI Γ 60 (fun i => (ts i).2.2.2)) := by rw [ef317]; exact (hm_un (hrI 13 1 (by decide) (by decide) (by decide))).trans h302
          have h333 : f317 ((r 14)) = some (eJ Γ 64 (fun j => (K j).1)) := by rw [ef317]; exact (hm_un (hrI 14 1 (by decide) (by decide) (by decide))).trans h303
          have h334 : f317 ((r 15)) = some (eI Γ 64 (fun j => (K j).2.1)) := by rw [ef317]; exact (hm_un (hrI 15 1 (by decide) (by decide) (by decide))).trans h304
          have h335 : f317 ((r 16)) = some (eI Γ 64 (fun j => (K j).2.2.1)) := by rw [ef317]; exact (hm_un (hrI 16 1 (by decide) (by decide) (by decide))).trans h305
          have h336 : f317 ((r 17)) = some (eI Γ 64 (fun j => (K j).2.2.2.1)) := by rw [ef317]; exact (hm_un (hrI 17 1 (by decide) (by decide) (by decide))).trans h306
          have h337 : f317 ((r 18)) = some (eI Γ 64 (fun j => (K j).2.2.2.2.1)) := by rw [ef317]; exact (hm_un (hrI 18 1 (by decide) (by decide) (by decide))).trans h307
          have h338 : f317 ((r 19)) = some (eI Γ 64 (fun j => (K j).2.2.2.2.2.1)) := by rw [ef317]; exact (hm_un (hrI 19 1 (by decide) (by decide) (by decide))).trans h308
          have h339 : f317 ((r 20)) = some (eI Γ 64 (fun j => (K j).2.2.2.2.2.2)) := by rw [ef317]; exact (hm_un (hrI 20 1 (by decide) (by decide) (by decide))).trans h309
          have h340 : f317 ((r 21)) = some (eJ Γ 6 pb) := by rw [ef317]; exact (hm_un (hrI 21 1 (by decide) (by decide) (by decide))).trans h310
          have h341 : f317 ((r 22)) = some (eI Γ 6 pz) := by rw [ef317]; exact (hm_un (hrI 22 1 (by decide) (by decide) (by decide))).trans h311
          have h342 : f317 ((r 23)) = some (eI Γ 6 pd) := by rw [ef317]; exact (hm_un (hrI 23 1 (by decide) (by decide) (by decide))).trans h312
          have h343 : f317 ((r 24)) = some (eI Γ 6 pn) := by rw [ef317]; exact (hm_un (hrI 24 1 (by decide) (by decide) (by decide))).trans h313
          have h344 : f317 ((r 25)) = some (eI Γ 6 pe) := by rw [ef317]; exact (hm_un (hrI 25 1 (by decide) (by decide) (by decide))).trans h314
          have h345 : f317 ((r 26)) = some (eI Γ 6 ph) := by rw [ef317]; exact (hm_un (hrI 26 1 (by decide) (by decide) (by decide))).trans h315
          have h346 : f317 ((r 27)) = some (eI Γ 6 pg) := by rw [ef317]; exact (hm_un (hrI 27 1 (by decide) (by decide) (by decide))).trans h316
          refine lv_aload_n hx hb dX8_open_101 rfl (lv_at hl 1 rfl) ?_
          refine gf_X8_17 hx hb hts hown hK hH h319 rfl dX8_open_102 ?_
          refine lv_aload_n hx hb dX8_open_105 rfl (lv_at hl 1 rfl) ?_
          refine gf_X8_106 hx hb hts hown hK hH h319 rfl dX8_open_106 ?_
          refine lv_aload_n hx hb dX8_open_109 rfl (lv_at hl 1 rfl) ?_
          refine gf_X8_135 hx hb hts hown hK hH h319 rfl dX8_open_110 ?_
          refine hm_iast hx hb hK hO hS hH h321 (vp_in_nI hng8 (by decide)) dX8_open_113 (fun H locs hH hS => ?_)
          rw [nI_clamp (n := ng) (by omega)] at hH
          obtain ⟨f347, ef347⟩ : ∃ zz_, zz_ = hm_up f317 ((r 2)) (eI Γ 8 (upd (fun i => nI (gs i).2.2.1) ng (nI (newZ z)))) := ⟨_, rfl⟩
          have hH : hm_H Γ f347 H := by rw [ef347]; exact hH
          have h348 : f347 ((r 2)) = some (eI Γ 8 (upd (fun i => nI (gs i).2.2.1) ng (nI (newZ z)))) := by rw [ef347]; exact hm_us
          have h349 : f347 m0 = some (eM r 0 (nI np) (nI ng) (nI nt) (nI kp) (nI rr) ck lim (nI (newZ z)) gd hih mih fh msh msm mso sp rf) := by rw [ef347]; exact (hm_un (hm_ne h319 h321 (fun q => by cases q))).trans h319
          have h350 : f347 ((r 0)) = some (eI Γ 4 mon) := by rw [ef347]; exact (hm_un (hrI 0 2 (by decide) (by decide) (by decide))).trans h320
          have h351 : f347 ((r 1)) = some (eJ Γ 8 (vp_updL (fun i => b4 (gs i).2.1) ng (b4 (newB z)))) := by rw [ef347]; exact (hm_un (hrI 1 2 (by decide) (by decide) (by decide))).trans h318
          have h352 : f347 ((r 3)) = some (eI Γ 8 (upd (fun i => nI (gs i).1) ng (nI j))) := by rw [ef347]; exact (hm_un (hrI 3 2 (by decide) (by decide) (by decide))).trans h322
          have h353 : f347 ((r 4)) = some (eI Γ 8 (fun i => (gs i).2.2.2.1)) := by rw [ef347]; exact (hm_un (hrI 4 2 (by decide) (by decide) (by decide))).trans h323
          have h354 : f347 ((r 5)) = some (eI Γ 8 (fun i => (gs i).2.2.2.2.1)) := by rw [ef347]; exact (hm_un (hrI 5 2 (by decide) (by decide) (by decide))).trans h324
          have h355 : f347 ((r 6)) = some (eI Γ 8 (fun i => (gs i).2.2.2.2.2.1)) := by rw [ef347]; exact (hm_un (hrI 6 2 (by decide) (by decide) (by decide))).trans h325
          have h356 : f347 ((r 7)) = some (eI Γ 8 (fun i => (gs i).2.2.2.2.2.2.1)) := by rw [ef347]; exact (hm_un (hrI 7 2 (by decide) (by decide) (by decide))).trans h326
          have h357 : f347 ((r 8)) = some (eI Γ 8 (fun i => (gs i).2.2.2.2.2.2.2.1)) := by rw [ef347]; exact (hm_un (hrI 8 2 (by decide) (by decide) (by decide))).trans h327
          have h358 : f347 ((r 9)) = some (eZ Γ 8 (fun i => bI (gs i).2.2.2.2.2.2.2.2)) := by rw [ef347]; exact (hm_un (hrI 9 2 (by decide) (by decide) (by decide))).trans h328
          have h359 : f347 ((r 10)) = some (eJ Γ 60 (fun i => b4 (ts i).2.1)) := by rw [ef347]; exact (hm_un (hrI 10 2 (by decide) (by decide) (by decide))).trans h329
          have h360 : f347 ((r 11)) = some (eI Γ 60 (fun i => nI (ts i).2.2.1)) := by rw [ef347]; exact (hm_un (hrI 11 2 (by decide) (by decide) (by decide))).trans h330
          have h361 : f347 ((r 12)) = some (eI Γ 60 (fun i => nI (ts i).1)) := by rw [ef347]; exact (hm_un (hrI 12 2 (by decide) (by decide) (by decide))).trans h331
          have h362 : f347 ((r 13)) = some (eI Γ 60 (fun i => (ts i).2.2.2)) := by rw [ef347]; exact (hm_un (hrI 13 2 (by decide) (by decide) (by decide))).trans h332
          have h363 : f347 ((r 14)) = some (eJ Γ 64 (fun j => (K j).1)) := by rw [ef347]; exact (hm_un (hrI 14 2 (by decide) (by decide) (by decide))).trans h333
          have h364 : f347 ((r 15)) = some (eI Γ 64 (fun j => (K j).2.1)) := by rw [ef347]; exact (hm_un (hrI 15 2 (by decide) (by decide) (by decide))).trans h334
          have h365 : f347 ((r 16)) = some (eI Γ 64 (fun j => (K j).2.2.1)) := by rw [ef347]; exact (hm_un (hrI 16 2 (by decide) (by decide) (by decide))).trans h335
          have h366 : f347 ((r 17)) = some (eI Γ 64 (fun j => (K j).2.2.2.1)) := by rw [ef347]; exact (hm_un (hrI 17 2 (by decide) (by decide) (by decide))).trans h336
          have h367 : f347 ((r 18)) = some (eI Γ 64 (fun j => (K j).2.2.2.2.1)) := by rw [ef347]; exact (hm_un (hrI 18 2 (by decide) (by decide) (by decide))).trans h337
          have h368 : f347 ((r 19)) = some (eI Γ 64 (fun j => (K j).2.2.2.2.2.1)) := by rw [ef347]; exact (hm_un (hrI 19 2 (by decide) (by decide) (by decide))).trans h338
          have h369 : f347 ((r 20)) = some (eI Γ 64 (fun j => (K j).2.2.2.2.2.2)) := by rw [ef347]; exact (hm_un (hrI 20 2 (by decide) (by decide) (by decide))).trans h339
          have h370 : f347 ((r 21)) = some (eJ Γ 6 pb) := by rw [ef347]; exact (hm_un (hrI 21 2 (by decide) (by decide) (by decide))).trans h340
          have h371 : f347 ((r 22)) = some (eI Γ 6 pz) := by rw [ef347]; exact (hm_un (hrI 22 2 (by decide) (by decide) (by decide))).trans h341
          have h372 : f347 ((r 23)) = some (eI Γ 6 pd) := by rw [ef347]; exact (hm_un (hrI 23 2 (by decide) (by decide) (by decide))).trans h342
          have h373 : f347 ((r 24)) = some (eI Γ 6 pn) := by rw [ef347]; exact (hm_un (hrI 24 2 (by decide) (by decide) (by decide))).trans h343
          have h374 : f347 ((r 25)) = some (eI Γ 6 pe) := by rw [ef347]; exact (hm_un (hrI 25 2 (by decide) (by decide) (by decide))).trans h344
          have h375 : f347 ((r 26)) = some (eI Γ 6 ph) := by rw [ef347]; exact (hm_un (hrI 26 2 (by decide) (by decide) (by decide))).trans h345
          have h376 : f347 ((r 27)) = some (eI Γ 6 pg) := by rw [ef347]; exact (hm_un (hrI 27 2 (by decide) (by decide) (by decide))).trans h346
          refine lv_aload_n hx hb dX8_open_114 rfl (lv_at hl 1 rfl) ?_
          refine lv_dup hx hb dX8_open_115 rfl ?_
          refine gf_X8_106 hx hb hts hown hK hH h349 rfl dX8_open_116 ?_
          refine lv_dup_x1 hx hb dX8_open_119 rfl rfl ?_
          refine lv_iconst (v := 1) hx hb dX8_open_120 (by decide) ?_
          refine lv_iadd hx hb dX8_open_121 ?_
          refine lv_topi (fun v377 ev377 => ?_)
          replace ev377 : v377 = (nI (ng + 1)) := ev377.trans (nI_1 ng)
          subst ev377
          refine pf_X8_106 hx hb hts hown hK hO hS hH h349 rfl (Nat.le_of_ble_eq_true rfl) rfl dX8_open_122 (fun H locs hH hS => ?_)
          obtain ⟨f378, ef378⟩ : ∃ zz_, zz_ = hm_up f347 m0 (eM r 0 (nI np) ((nI (ng + 1))) (nI nt) (nI kp) (nI rr) ck lim (nI (newZ z)) gd hih mih fh msh msm mso sp rf) := ⟨_, rfl⟩
          have hH : hm_H Γ f378 H := by rw [ef378]; exact hH
          have h379 : f378 m0 = some (eM r 0 (nI np) ((nI (ng + 1))) (nI nt) (nI kp) (nI rr) ck lim (nI (newZ z)) gd hih mih fh msh msm mso sp rf) := by rw [ef378]; exact hm_us
          have h380 : f378 ((r 0)) = some (eI Γ 4 mon) := by rw [ef378]; exact (hm_un (hm_ne h350 h349 (fun q => by cases q))).trans h350
          have h381 : f378 ((r 1)) = some (eJ Γ 8 (vp_updL (fun i => b4 (gs i).2.1) ng (b4 (newB z)))) := by rw [ef378]; exact (hm_un (hm_ne h351 h349 (fun q => by cases q))).trans h351
          have h382 : f378 ((r 2)) = some (eI Γ 8 (upd (fun i => nI (gs i).2.2.1) ng (nI (newZ z)))) := by rw [ef378]; exact (hm_un (hm_ne h348 h349 (fun q => by cases q))).trans h348
          have h383 : f378 ((r 3)) = some (eI Γ 8 (upd (fun i => nI (gs i).1) ng (nI j))) := by rw [ef378]; exact (hm_un (hm_ne h352 h349 (fun q => by cases q))).trans h352
          have h384 : f378 ((r 4)) = some (eI Γ 8 (fun i => (gs i).2.2.2.1)) := by rw [ef378]; exact (hm_un (hm_ne h353 h349 (fun q => by cases q))).trans h353
          have h385 : f378 ((r 5)) = some (eI Γ 8 (fun i => (gs i).2.2.2.2.1)) := by rw [ef378]; exact (hm_un (hm_ne h354 h349 (fun q => by cases q))).trans h354
          have h386 : f378 ((r 6)) = some (eI Γ 8 (fun i => (gs i).2.2.2.2.2.1)) := by rw [ef378]; exact (hm_un (hm_ne h355 h349 (fun q => by cases q))).trans h355
          have h387 : f378 ((r 7)) = some (eI Γ 8 (fun i => (gs i).2.2.2.2.2.2.1)) := by rw [ef378]; exact (hm_un (hm_ne h356 h349 (fun q => by cases q))).trans h356
          have h388 : f378 ((r 8)) = some (eI Γ 8 (fun i => (gs i).2.2.2.2.2.2.2.1)) := by rw [ef378]; exact (hm_un (hm_ne h357 h349 (fun q => by cases q))).trans h357
          have h389 : f378 ((r 9)) = some (eZ Γ 8 (fun i => bI (gs i).2.2.2.2.2.2.2.2)) := by rw [ef378]; exact (hm_un (hm_ne h358 h349 (fun q => by cases q))).trans h358
          have h390 : f378 ((r 10)) = some (eJ Γ 60 (fun i => b4 (ts i).2.1)) := by rw [ef378]; exact (hm_un (hm_ne h359 h349 (fun q => by cases q))).trans h359
          have h391 : f378 ((r 11)) = some (eI Γ 60 (fun i => nI (ts i).2.2.1)) := by rw [ef378]; exact (hm_un (hm_ne h360 h349 (fun q => by cases q))).trans h360
          have h392 : f378 ((r 12)) = some (eI Γ 60 (fun i => nI (ts i).1)) := by rw [ef378]; exact (hm_un (hm_ne h361 h349 (fun q => by cases q))).trans h361
          have h393 : f378 ((r 13)) = some (eI Γ 60 (fun i => (ts i).2.2.2)) := by rw [ef378]; exact (hm_un (hm_ne h362 h349 (fun q => by cases q))).trans h362
          have h394 : f378 ((r 14)) = some (eJ Γ 64 (fun j => (K j).1)) := by rw [ef378]; exact (hm_un (hm_ne h363 h349 (fun q => by cases q))).trans h363
          have h395 : f378 ((r 15)) = some (eI Γ 64 (fun j => (K j).2.1)) := by rw [ef378]; exact (hm_un (hm_ne h364 h349 (fun q => by cases q))).trans h364
          have h396 : f378 ((r 16)) = some (eI Γ 64 (fun j => (K j).2.2.1)) := by rw [ef378]; exact (hm_un (hm_ne h365 h349 (fun q => by cases q))).trans h365
          have h397 : f378 ((r 17)) = some (eI Γ 64 (fun j => (K j).2.2.2.1)) := by rw [ef378]; exact (hm_un (hm_ne h366 h349 (fun q => by cases q))).trans h366
          have h398 : f378 ((r 18)) = some (eI Γ 64 (fun j => (K j).2.2.2.2.1)) := by rw [ef378]; exact (hm_un (hm_ne h367 h349 (fun q => by cases q))).trans h367
          have h399 : f378 ((r 19)) = some (eI Γ 64 (fun j => (K j).2.2.2.2.2.1)) := by rw [ef378]; exact (hm_un (hm_ne h368 h349 (fun q => by cases q))).trans h368
          have h400 : f378 ((r 20)) = some (eI Γ 64 (fun j => (K j).2.2.2.2.2.2)) := by rw [ef378]; exact (hm_un (hm_ne h369 h349 (fun q => by cases q))).trans h369
          have h401 : f378 ((r 21)) = some (eJ Γ 6 pb) := by rw [ef378]; exact (hm_un (hm_ne h370 h349 (fun q => by cases q))).trans h370
          have h402 : f378 ((r 22)) = some (eI Γ 6 pz) := by rw [ef378]; exact (hm_un (hm_ne h371 h349 (fun q => by cases q))).trans h371
          have h403 : f378 ((r 23)) = some (eI Γ 6 pd) := by rw [ef378]; exact (hm_un (hm_ne h372 h349 (fun q => by cases q))).trans h372
          have h404 : f378 ((r 24)) = some (eI Γ 6 pn) := by rw [ef378]; exact (hm_un (hm_ne h373 h349 (fun q => by cases q))).trans h373
          have h405 : f378 ((r 25)) = some (eI Γ 6 pe) := by rw [ef378]; exact (hm_un (hm_ne h374 h349 (fun q => by cases q))).trans h374
          have h406 : f378 ((r 26)) = some (eI Γ 6 ph) := by rw [ef378]; exact (hm_un (hm_ne h375 h349 (fun q => by cases q))).trans h375
          have h407 : f378 ((r 27)) = some (eI Γ 6 pg) := by rw [ef378]; exact (hm_un (hm_ne h376 h349 (fun q => by cases q))).trans h376
          have hfr9 : hm_fr (mS m0 r) f f378 := by
            rw [ef378, ef347, ef317, efn288, efn259, ef229, efn198, efn133, efn68]
            exact (((((((((hm_fr.rf (S := mS m0 r)).up mS_0).up mS_0).up mS_0).up (mS_r (by decide))).up mS_0).up mS_0).up (mS_r (by decide))).up (mS_r (by decide))).up mS_0
          exact hm_iret hx hb hr hlocks hS hH (⟨Or.inl ⟨by rw [hb67]; rw [hb132]; rw [hb197]; rfl, rfl, MW.mk h379 ⟨⟨h394, h395, h396, h397, h398, h399, h400⟩, ⟨_, _, _, _, _, _, _, h401, h402, h403, h404, h405, h406, h407⟩, h380, ⟨(by rw [hij, hiz]; exact h381.trans (congrArg some (congrArg (eJ Γ 8) (updL_fun (fun x : GS => b4 x.2.1) gs ng (j, newB z, newZ z, 0, 0, 0, 0, 0, false))))), (by rw [hij, hiz]; exact h382.trans (congrArg some (congrArg (eI Γ 8) (upd_fun (fun x : GS => nI x.2.2.1) gs ng (j, newB z, newZ z, 0, 0, 0, 0, 0, false))))), (by rw [hij, hiz]; exact h383.trans (congrArg some (congrArg (eI Γ 8) (upd_fun (fun x : GS => nI x.1) gs ng (j, newB z, newZ z, 0, 0, 0, 0, 0, false))))), (by rw [hij, hiz]; exact h384.trans (congrArg some (congrArg (eI Γ 8) (gset_p (fun x : GS => (x).2.2.2.1) (y := (j, newB z, newZ z, 0, 0, 0, 0, 0, false)) (by show ((j, newB z, newZ z, 0, 0, 0, 0, 0, false)).2.2.2.1 = (gs ng).2.2.2.1; rw [hdf]))))), (by rw [hij, hiz]; exact h385.trans (congrArg some (congrArg (eI Γ 8) (gset_p (fun x : GS => (x).2.2.2.2.1) (y := (j, newB z, newZ z, 0, 0, 0, 0, 0, false)) (by show ((j, newB z, newZ z, 0, 0, 0, 0, 0, false)).2.2.2.2.1 = (gs ng).2.2.2.2.1; rw [hdf]))))), (by rw [hij, hiz]; exact h386.trans (congrArg some (congrArg (eI Γ 8) (gset_p (fun x : GS => (x).2.2.2.2.2.1) (y := (j, newB z, newZ z, 0, 0, 0, 0, 0, false)) (by show ((j, newB z, newZ z, 0, 0, 0, 0, 0, false)).2.2.2.2.2.1 = (gs ng).2.2.2.2.2.1; rw [hdf]))))), (by rw [hij, hiz]; exact h387.trans (congrArg some (congrArg (eI Γ 8) (gset_p (fun x : GS => (x).2.2.2.2.2.2.1) (y := (j, newB z, newZ z, 0, 0, 0, 0, 0, false)) (by show ((j, newB z, newZ z, 0, 0, 0, 0, 0, false)).2.2.2.2.2.2.1 = (gs ng).2.2.2.2.2.2.1; rw [hdf]))))), (by rw [hij, hiz]; exact h388.trans (congrArg some (congrArg (eI Γ 8) (gset_p (fun x : GS => (x).2.2.2.2.2.2.2.1) (y := (j, newB z, newZ z, 0, 0, 0, 0, 0, false)) (by show ((j, newB z, newZ z, 0, 0, 0, 0, 0, false)).2.2.2.2.2.2.2.1 = (gs ng).2.2.2.2.2.2.2.1; rw [hdf]))))), (by rw [hij, hiz]; exact h389.trans (congrArg some (congrArg (eZ Γ 8) (gset_p (fun x : GS => bI (x).2.2.2.2.2.2.2.2) (y := (j, newB z, newZ z, 0, 0, 0, 0, 0, false)) (by show bI ((j, newB z, newZ z, 0, 0, 0, 0, 0, false)).2.2.2.2.2.2.2.2 = bI (gs ng).2.2.2.2.2.2.2.2; rw [hdf])))))⟩, h390, h391, h392, h393⟩⟩, hfr9.k⟩) (Nat.le_of_ble_eq_true rfl) (Nat.le_of_ble_eq_true rfl) dX8_open_125
theorem dep_inR {v : Int32} (h : inR v 1 4 = true) : ∃ d, (1 ≤ d ∧ d ≤ 4) ∧ v = nI d := by
  unfold inR at h
  obtain ⟨h1, h2⟩ := (Bool.and_eq_true _ _).mp h
  obtain ⟨d, a, b, c⟩ := dep_in (v := v) (a := 1) (Int32.not_lt.mpr (of_decide_eq_true h1)) (by decide) (of_decide_eq_true h2)
  exact ⟨d, ⟨a, b⟩, c⟩
set_option maxHeartbeats 4000000 in
set_option maxRecDepth 100000 in
theorem w_X8_isCached (Γ : Gm) (l : Launch) (m0 : Nat) (r : Nat → Nat) (th : Int32) (K : Nat → EV) (kp : Nat) (ck msh msm mso : Int32) (np : Nat) (mon : Nat → Int32) (ng : Nat) (gs : Nat → GS) (nt : Nat) (ts : Nat → TR) (lim : Int32) (rf sp : Int64) (rr : Nat) (v0 v1 : Int32) (f : Hm) (hM : MW Γ f m0 r th K kp ck msh msm mso np mon ng gs nt ts lim rf sp rr) (hnp : np ≤ 4) (hng : ng ≤ 8) (hnt : nt ≤ 60) (hr1 : 1 ≤ rr) (hrr : rr ≤ 64) (hkr : kp ≤ rr) (hrI : rI r) (hgs : GOK np ng gs) : Ct Γ l yX8_isCached cX8_isCached 3 (some .boolean) 4 0 0 [.ref m0, .int v0, .int v1] f (mP (if inB v0 (nI ng) then (if inR v1 1 4 then 0 else 2) else 1) (bI ((fstP (fun j => isFor (K j) (b4 (gs (ix v0)).2.1) (nI (gs (ix v0)).2.2.1) v1) kp).isSome)) (mS m0 r) f (fun f' => MW Γ f' m0 r 0 K kp ck msh msm mso np mon ng gs nt ts lim rf sp rr) (fun f' => MW Γ f' m0 r ((if inB v0 (nI ng) then (if inR v1 1 4 then 0 else 2) else 1)) K kp ck msh msm mso np mon ng gs nt ts lim rf sp rr)) := by
  refine Ct_of (by decide +kernel) (Nat.le_of_ble_eq_true rfl) ?_
  intro p e s m args below meth c hx hb hr hml hown hin hlocks hts hH hO hK ls hl
  have hl : lv_has ls 3 [(0, .ref m0), (1, .int v0), (2, .int v1)] := hl
  have hS : va_S (gA Γ) s.heap s.heap [] := va_S.rf
  obtain ⟨⟨dz, gd, hih, mih, fh, hm0⟩, hR⟩ := id hM
  obtain ⟨⟨hk0, hk1, hk2, hk3, hk4, hk5, hk6⟩, ⟨pb, pz, pd, pn, pe, ph, pg, hp0, hp1, hp2, hp3, hp4, hp5, hp6⟩, h0, ⟨hg1, hg2, hg3, hg4, hg5, hg6, hg7, hg8, hg9⟩, ht10, ht11, ht12, ht13⟩ := id hR
  refine lv_aload_n hx hb dX8_isCached_0 rfl (lv_at hl 0 rfl) ?_
  refine lv_iload_n hx hb dX8_isCached_1 rfl (lv_at hl 1 rfl) ?_
  refine lv_iload_n hx hb dX8_isCached_2 rfl (lv_at hl 2 rfl) ?_
  refine hm_callV (rest := []) (k := 3) q6_21 q6_23 q1_9 q6_24 q0_32 rfl nm_X8_noDepth rfl hx hb hml hown hts hK hO hS hH hl.1 hm0 (c_X8_noDepth Γ l m0 r th (nI np) (nI ng) (nI nt) (nI kp) (nI rr) ck lim dz gd hih mih fh msh msm mso sp rf v0 v1 f hm0) ⟨Nat.le_of_ble_eq_true rfl, Nat.le_of_ble_eq_true rfl⟩ ⟨Nat.le_of_ble_eq_true rfl, Nat.le_of_ble_eq_true rfl⟩ rfl (Nat.le_of_ble_eq_true rfl) dX8_isCached_3 (fun v_ fn1 H locs hp_ hH hS => ?_)
  obtain ⟨rfl, efn1⟩ := hp_
  have hcs : (inB v0 (nI ng) = true ∧ inR v1 1 4 = true) ∨ (inB v0 (nI ng) = true ∧ inR v1 1 4 = false) ∨ (inB v0 (nI ng) = false ∧ True) := by
    rcases bTF (inB v0 (nI ng)) with h | h
    · rcases bTF (inR v1 1 4) with h2 | h2
      · exact Or.inl ⟨h, h2⟩
      · exact Or.inr (Or.inl ⟨h, h2⟩)
    · exact Or.inr (Or.inr ⟨h, trivial⟩)
  rcases hcs with ⟨hb1, hb2⟩ | ⟨hb1, hb2⟩ | ⟨hb1, hb2⟩
  · rw [hb1, hb2] at efn1
    refine W.eq (g2 := F0 m 6 ls [.int 0]) (by rw [hb1, hb2]; rfl) ?_
    have hm1_ : fn1 m0 = some (eM r 0 (nI np) (nI ng) (nI nt) (nI kp) (nI rr) ck lim dz gd hih mih fh msh msm mso sp rf) := by rw [efn1]; exact hm_us
    have h2 : fn1 ((r 0)) = some (eI Γ 4 mon) := by rw [efn1]; exact (hm_un (hm_ne h0 hm0 (fun q => by cases q))).trans h0
    have h3 : fn1 ((r 1)) = some (eJ Γ 8 (fun i => b4 (gs i).2.1)) := by rw [efn1]; exact (hm_un (hm_ne hg1 hm0 (fun q => by cases q))).trans hg1
    have h4 : fn1 ((r 2)) = some (eI Γ 8 (fun i => nI (gs i).2.2.1)) := by rw [efn1]; exact (hm_un (hm_ne hg2 hm0 (fun q => by cases q))).trans hg2
    have h5 : fn1 ((r 3)) = some (eI Γ 8 (fun i => nI (gs i).1)) := by rw [efn1]; exact (hm_un (hm_ne hg3 hm0 (fun q => by cases q))).trans hg3
    have h6 : fn1 ((r 4)) = some (eI Γ 8 (fun i => (gs i).2.2.2.1)) := by rw [efn1]; exact (hm_un (hm_ne hg4 hm0 (fun q => by cases q))).trans hg4
    have h7 : fn1 ((r 5)) = some (eI Γ 8 (fun i => (gs i).2.2.2.2.1)) := by rw [efn1]; exact (hm_un (hm_ne hg5 hm0 (fun q => by cases q))).trans hg5
    have h8 : fn1 ((r 6)) = some (eI Γ 8 (fun i => (gs i).2.2.2.2.2.1)) := by rw [efn1]; exact (hm_un (hm_ne hg6 hm0 (fun q => by cases q))).trans hg6
    have h9 : fn1 ((r 7)) = some (eI Γ 8 (fun i => (gs i).2.2.2.2.2.2.1)) := by rw [efn1]; exact (hm_un (hm_ne hg7 hm0 (fun q => by cases q))).trans hg7
    have h10 : fn1 ((r 8)) = some (eI Γ 8 (fun i => (gs i).2.2.2.2.2.2.2.1)) := by rw [efn1]; exact (hm_un (hm_ne hg8 hm0 (fun q => by cases q))).trans hg8
    have h11 : fn1 ((r 9)) = some (eZ Γ 8 (fun i => bI (gs i).2.2.2.2.2.2.2.2)) := by rw [efn1]; exact (hm_un (hm_ne hg9 hm0 (fun q => by cases q))).trans hg9
    have h12 : fn1 ((r 10)) = some (eJ Γ 60 (fun i => b4 (ts i).2.1)) := by rw [efn1]; exact (hm_un (hm_ne ht10 hm0 (fun q => by cases q))).trans ht10
    have h13 : fn1 ((r 11)) = some (eI Γ 60 (fun i => nI (ts i).2.2.1)) := by rw [efn1]; exact (hm_un (hm_ne ht11 hm0 (fun q => by cases q))).trans ht11
    have h14 : fn1 ((r 12)) = some (eI Γ 60 (fun i => nI (ts i).1)) := by rw [efn1]; exact (hm_un (hm_ne ht12 hm0 (fun q => by cases q))).trans ht12
    have h15 : fn1 ((r 13)) = some (eI Γ 60 (fun i => (ts i).2.2.2)) := by rw [efn1]; exact (hm_un (hm_ne ht13 hm0 (fun q => by cases q))).trans ht13
    have h16 : fn1 ((r 14)) = some (eJ Γ 64 (fun j => (K j).1)) := by rw [efn1]; exact (hm_un (hm_ne hk0 hm0 (fun q => by cases q))).trans hk0
    have h17 : fn1 ((r 15)) = some (eI Γ 64 (fun j => (K j).2.1)) := by rw [efn1]; exact (hm_un (hm_ne hk1 hm0 (fun q => by cases q))).trans hk1
    have h18 : fn1 ((r 16)) = some (eI Γ 64 (fun j => (K j).2.2.1)) := by rw [efn1]; exact (hm_un (hm_ne hk2 hm0 (fun q => by cases q))).trans hk2
    have h19 : fn1 ((r 17)) = some (eI Γ 64 (fun j => (K j).2.2.2.1)) := by rw [efn1]; exact (hm_un (hm_ne hk3 hm0 (fun q => by cases q))).trans hk3
    have h20 : fn1 ((r 18)) = some (eI Γ 64 (fun j => (K j).2.2.2.2.1)) := by rw [efn1]; exact (hm_un (hm_ne hk4 hm0 (fun q => by cases q))).trans hk4
    have h21 : fn1 ((r 19)) = some (eI Γ 64 (fun j => (K j).2.2.2.2.2.1)) := by rw [efn1]; exact (hm_un (hm_ne hk5 hm0 (fun q => by cases q))).trans hk5
    have h22 : fn1 ((r 20)) = some (eI Γ 64 (fun j => (K j).2.2.2.2.2.2)) := by rw [efn1]; exact (hm_un (hm_ne hk6 hm0 (fun q => by cases q))).trans hk6
    have h23 : fn1 ((r 21)) = some (eJ Γ 6 pb) := by rw [efn1]; exact (hm_un (hm_ne hp0 hm0 (fun q => by cases q))).trans hp0
    have h24 : fn1 ((r 22)) = some (eI Γ 6 pz) := by rw [efn1]; exact (hm_un (hm_ne hp1 hm0 (fun q => by cases q))).trans hp1
    have h25 : fn1 ((r 23)) = some (eI Γ 6 pd) := by rw [efn1]; exact (hm_un (hm_ne hp2 hm0 (fun q => by cases q))).trans hp2
    have h26 : fn1 ((r 24)) = some (eI Γ 6 pn) := by rw [efn1]; exact (hm_un (hm_ne hp3 hm0 (fun q => by cases q))).trans hp3
    have h27 : fn1 ((r 25)) = some (eI Γ 6 pe) := by rw [efn1]; exact (hm_un (hm_ne hp4 hm0 (fun q => by cases q))).trans hp4
    have h28 : fn1 ((r 26)) = some (eI Γ 6 ph) := by rw [efn1]; exact (hm_un (hm_ne hp5 hm0 (fun q => by cases q))).trans hp5
    have h29 : fn1 ((r 27)) = some (eI Γ 6 pg) := by rw [efn1]; exact (hm_un (hm_ne hp6 hm0 (fun q => by cases q))).trans hp6
    obtain ⟨i, hi, rfl⟩ := (inB_iff (by omega)).mp hb1
    obtain ⟨d, hd, rfl⟩ := dep_inR hb2
    obtain ⟨hgo, hgw, hgz⟩ := hgs i hi
    have hi8 : i < 8 := by omega
    have hix : ix (nI i) = i := ix_nI (by omega)
    have hid : ix (nI d) = d := ix_nI (by omega)
    have ht15 : tl 15 (gs i).2.1 := tl_mono (tl12 (by omega)) (by decide)
    refine lv_if_ne (tgt := 34) hx hb dX8_isCached_6 (by decide) (fun c86 => absurd (by decide) c86) (fun _ => ?_)
    refine lv_aload_n hx hb dX8_isCached_9 rfl (lv_at hl 0 rfl) ?_
    refine lv_aload_n hx hb dX8_isCached_10 rfl (lv_at hl 0 rfl) ?_
    refine gf_X8_13 hx hb hts hown hK hH hm1_ rfl dX8_isCached_11 ?_
    refine lv_iload_n hx hb dX8_isCached_14 rfl (lv_at hl 1 rfl) ?_
    refine hm_lald hx hb hK hH h3 (vp_in_nI hi8 (by decide)) dX8_isCached_15 ?_
    refine lv_topl (fun v87 ev87 => ?_)
    replace ev87 : v87 = b4 (gs i).2.1 := ev87.trans (by show b4 (gs (nI i).toNatClampNeg).2.1 = _; rw [nI_clamp (n := i) (by omega)])
    subst ev87
    refine lv_aload_n hx hb dX8_isCached_16 rfl (lv_at hl 0 rfl) ?_
    refine gf_X8_17 hx hb hts hown hK hH hm1_ rfl dX8_isCached_17 ?_
    refine lv_iload_n hx hb dX8_isCached_20 rfl (lv_at hl 1 rfl) ?_
    refine hm_iald hx hb hK hH h4 (vp_in_nI hi8 (by decide)) dX8_isCached_21 ?_
    refine lv_topi (fun v88 ev88 => ?_)
    replace ev88 : v88 = nI (gs i).2.2.1 := ev88.trans (by show nI (gs (nI i).toNatClampNeg).2.2.1 = _; rw [nI_clamp (n := i) (by omega)])
    subst ev88
    refine lv_iload_n hx hb dX8_isCached_22 rfl (lv_at hl 2 rfl) ?_
    refine hm_callV (rest := []) (k := 1) q5_217 q5_219 q1_9 q5_220 q0_27 rfl nm_X8_find rfl hx hb hml hown hts hK hO hS hH hl.1 hm1_ (c_X8_find Γ l m0 r 0 (nI np) (nI ng) (nI nt) (nI rr) ck lim dz gd hih mih fh msh msm mso sp rf kp K (b4 (gs i).2.1) (nI (gs i).2.2.1) (nI d) fn1 hm1_ ⟨h16, h17, h18, h19, h20, h21, h22⟩ (by omega)) ⟨Nat.le_of_ble_eq_true rfl, Nat.le_of_ble_eq_true rfl⟩ ⟨Nat.le_of_ble_eq_true rfl, Nat.le_of_ble_eq_true rfl⟩ rfl (Nat.le_of_ble_eq_true rfl) dX8_isCached_23 (fun v_ f_ H locs hp_ hH hS => ?_)
    obtain ⟨hp_, ef_⟩ := hp_
    rw [ef_] at hH
    clear ef_
    rcases hp_ with ⟨rfl, hno⟩ | ⟨a, ha, hpa, hpj, rfl⟩
    · refine W.eq (g2 := F0 m 26 ls [.int ((-1))]) rfl ?_
      have hfd : (fstP (fun j => isFor (K j) (b4 (gs i).2.1) (nI (gs i).2.2.1) (nI d)) kp).isSome = false := fI_none hno
      refine lv_iconst (v := (-1)) hx hb dX8_isCached_26 (by decide) ?_
      refine lv_icmp_eq (tgt := 34) hx hb dX8_isCached_27 (by decide) (fun _ => ?_) (fun c89 => absurd (by decide) c89)
      refine lv_iconst (v := 0) hx hb dX8_isCached_34 (by decide) ?_
      have hfr9 : hm_fr (mS m0 r) f fn1 := by
        rw [efn1]
        exact (hm_fr.rf (S := mS m0 r)).up mS_0
      exact hm_zret hx hb hr rfl hlocks hS hH (⟨Or.inl ⟨by rw [hb1]; rw [hb2]; (try rw [hix]); (try rw [hid]); rfl, by rw [hix, hfd]; rfl, MW.mk hm1_ ⟨⟨h16, h17, h18, h19, h20, h21, h22⟩, ⟨_, _, _, _, _, _, _, h23, h24, h25, h26, h27, h28, h29⟩, h2, ⟨h3, h4, h5, h6, h7, h8, h9, h10, h11⟩, h12, h13, h14, h15⟩⟩, hfr9.k⟩) (Nat.le_of_ble_eq_true rfl) (Nat.le_of_ble_eq_true rfl) dX8_isCached_35
    · refine W.eq (g2 := F0 m 26 ls [.int (nI a)]) rfl ?_
      have hfd : (fstP (fun j => isFor (K j) (b4 (gs i).2.1) (nI (gs i).2.2.1) (nI d)) kp) = some a := fI_some ha hpa hpj
      have ha64 : a < 64 := by omega
      refine lv_iconst (v := (-1)) hx hb dX8_isCached_26 (by decide) ?_
      refine lv_icmp_eq (tgt := 34) hx hb dX8_isCached_27 (by decide) (fun c90 => absurd c90 ((fun q => absurd (show (nI a) < 0 by rw [q]; decide) (nI_pos (by omega))))) (fun _ => ?_)
      refine lv_iconst (v := 1) hx hb dX8_isCached_30 (by decide) ?_
      refine lv_goto (tgt := 35) hx hb dX8_isCached_31 (by decide) ?_
      have hfr9 : hm_fr (mS m0 r) f fn1 := by
        rw [efn1]
        exact (hm_fr.rf (S := mS m0 r)).up mS_0
      exact hm_zret hx hb hr rfl hlocks hS hH (⟨Or.inl ⟨by rw [hb1]; rw [hb2]; (try rw [hix]); (try rw [hid]); rfl, by rw [hix, hfd]; rfl, MW.mk hm1_ ⟨⟨h16, h17, h18, h19, h20, h21, h22⟩, ⟨_, _, _, _, _, _, _, h23, h24, h25, h26, h27, h28, h29⟩, h2, ⟨h3, h4, h5, h6, h7, h8, h9, h10, h11⟩, h12, h13, h14, h15⟩⟩, hfr9.k⟩) (Nat.le_of_ble_eq_true rfl) (Nat.le_of_ble_eq_true rfl) dX8_isCached_35
  · rw [hb1, hb2] at efn1
    refine W.eq (g2 := F0 m 6 ls [.int 1]) (by rw [hb1, hb2]; rfl) ?_
    have hm1_ : fn1 m0 = some (eM r 2 (nI np) (nI ng) (nI nt) (nI kp) (nI rr) ck lim dz gd hih mih fh msh msm mso sp rf) := by rw [efn1]; exact hm_us
    have h30 : fn1 ((r 0)) = some (eI Γ 4 mon) := by rw [efn1]; exact (hm_un (hm_ne h0 hm0 (fun q => by cases q))).trans h0
    have h31 : fn1 ((r 1)) = some (eJ Γ 8 (fun i => b4 (gs i).2.1)) := by rw [efn1]; exact (hm_un (hm_ne hg1 hm0 (fun q => by cases q))).trans hg1
    have h32 : fn1 ((r 2)) = some (eI Γ 8 (fun i => nI (gs i).2.2.1)) := by rw [efn1]; exact (hm_un (hm_ne hg2 hm0 (fun q => by cases q))).trans hg2
    have h33 : fn1 ((r 3)) = some (eI Γ 8 (fun i => nI (gs i).1)) := by rw [efn1]; exact (hm_un (hm_ne hg3 hm0 (fun q => by cases q))).trans hg3
    have h34 : fn1 ((r 4)) = some (eI Γ 8 (fun i => (gs i).2.2.2.1)) := by rw [efn1]; exact (hm_un (hm_ne hg4 hm0 (fun q => by cases q))).trans hg4
    have h35 : fn1 ((r 5)) = some (eI Γ 8 (fun i => (gs i).2.2.2.2.1)) := by rw [efn1]; exact (hm_un (hm_ne hg5 hm0 (fun q => by cases q))).trans hg5
    have h36 : fn1 ((r 6)) = some (eI Γ 8 (fun i => (gs i).2.2.2.2.2.1)) := by rw [efn1]; exact (hm_un (hm_ne hg6 hm0 (fun q => by cases q))).trans hg6
    have h37 : fn1 ((r 7)) = some (eI Γ 8 (fun i => (gs i).2.2.2.2.2.2.1)) := by rw [efn1]; exact (hm_un (hm_ne hg7 hm0 (fun q => by cases q))).trans hg7
    have h38 : fn1 ((r 8)) = some (eI Γ 8 (fun i => (gs i).2.2.2.2.2.2.2.1)) := by rw [efn1]; exact (hm_un (hm_ne hg8 hm0 (fun q => by cases q))).trans hg8
    have h39 : fn1 ((r 9)) = some (eZ Γ 8 (fun i => bI (gs i).2.2.2.2.2.2.2.2)) := by rw [efn1]; exact (hm_un (hm_ne hg9 hm0 (fun q => by cases q))).trans hg9
    have h40 : fn1 ((r 10)) = some (eJ Γ 60 (fun i => b4 (ts i).2.1)) := by rw [efn1]; exact (hm_un (hm_ne ht10 hm0 (fun q => by cases q))).trans ht10
    have h41 : fn1 ((r 11)) = some (eI Γ 60 (fun i => nI (ts i).2.2.1)) := by rw [efn1]; exact (hm_un (hm_ne ht11 hm0 (fun q => by cases q))).trans ht11
    have h42 : fn1 ((r 12)) = some (eI Γ 60 (fun i => nI (ts i).1)) := by rw [efn1]; exact (hm_un (hm_ne ht12 hm0 (fun q => by cases q))).trans ht12
    have h43 : fn1 ((r 13)) = some (eI Γ 60 (fun i => (ts i).2.2.2)) := by rw [efn1]; exact (hm_un (hm_ne ht13 hm0 (fun q => by cases q))).trans ht13
    have h44 : fn1 ((r 14)) = some (eJ Γ 64 (fun j => (K j).1)) := by rw [efn1]; exact (hm_un (hm_ne hk0 hm0 (fun q => by cases q))).trans hk0
    have h45 : fn1 ((r 15)) = some (eI Γ 64 (fun j => (K j).2.1)) := by rw [efn1]; exact (hm_un (hm_ne hk1 hm0 (fun q => by cases q))).trans hk1
    have h46 : fn1 ((r 16)) = some (eI Γ 64 (fun j => (K j).2.2.1)) := by rw [efn1]; exact (hm_un (hm_ne hk2 hm0 (fun q => by cases q))).trans hk2
    have h47 : fn1 ((r 17)) = some (eI Γ 64 (fun j => (K j).2.2.2.1)) := by rw [efn1]; exact (hm_un (hm_ne hk3 hm0 (fun q => by cases q))).trans hk3
    have h48 : fn1 ((r 18)) = some (eI Γ 64 (fun j => (K j).2.2.2.2.1)) := by rw [efn1]; exact (hm_un (hm_ne hk4 hm0 (fun q => by cases q))).trans hk4
    have h49 : fn1 ((r 19)) = some (eI Γ 64 (fun j => (K j).2.2.2.2.2.1)) := by rw [efn1]; exact (hm_un (hm_ne hk5 hm0 (fun q => by cases q))).trans hk5
    have h50 : fn1 ((r 20)) = some (eI Γ 64 (fun j => (K j).2.2.2.2.2.2)) := by rw [efn1]; exact (hm_un (hm_ne hk6 hm0 (fun q => by cases q))).trans hk6
    have h51 : fn1 ((r 21)) = some (eJ Γ 6 pb) := by rw [efn1]; exact (hm_un (hm_ne hp0 hm0 (fun q => by cases q))).trans hp0
    have h52 : fn1 ((r 22)) = some (eI Γ 6 pz) := by rw [efn1]; exact (hm_un (hm_ne hp1 hm0 (fun q => by cases q))).trans hp1
    have h53 : fn1 ((r 23)) = some (eI Γ 6 pd) := by rw [efn1]; exact (hm_un (hm_ne hp2 hm0 (fun q => by cases q))).trans hp2
    have h54 : fn1 ((r 24)) = some (eI Γ 6 pn) := by rw [efn1]; exact (hm_un (hm_ne hp3 hm0 (fun q => by cases q))).trans hp3
    have h55 : fn1 ((r 25)) = some (eI Γ 6 pe) := by rw [efn1]; exact (hm_un (hm_ne hp4 hm0 (fun q => by cases q))).trans hp4
    have h56 : fn1 ((r 26)) = some (eI Γ 6 ph) := by rw [efn1]; exact (hm_un (hm_ne hp5 hm0 (fun q => by cases q))).trans hp5
    have h57 : fn1 ((r 27)) = some (eI Γ 6 pg) := by rw [efn1]; exact (hm_un (hm_ne hp6 hm0 (fun q => by cases q))).trans hp6
    refine lv_if_ne (tgt := 34) hx hb dX8_isCached_6 (by decide) (fun _ => ?_) (fun c91 => absurd c91 (by decide))
    refine lv_iconst (v := 0) hx hb dX8_isCached_34 (by decide) ?_
    have hfr9 : hm_fr (mS m0 r) f fn1 := by
      rw [efn1]
      exact (hm_fr.rf (S := mS m0 r)).up mS_0
    exact hm_zret hx hb hr rfl hlocks hS hH (⟨Or.inr ⟨by rw [hb1]; rw [hb2]; exact (show (2 : Int32) ≠ 0 by decide), ⟨_, rfl⟩, by rw [hb1]; rw [hb2]; exact MW.mk hm1_ ⟨⟨h44, h45, h46, h47, h48, h49, h50⟩, ⟨_, _, _, _, _, _, _, h51, h52, h53, h54, h55, h56, h57⟩, h30, ⟨h31, h32, h33, h34, h35, h36, h37, h38, h39⟩, h40, h41, h42, h43⟩⟩, hfr9.k⟩) (Nat.le_of_ble_eq_true rfl) (Nat.le_of_ble_eq_true rfl) dX8_isCached_35
  · rw [hb1] at efn1
    refine W.eq (g2 := F0 m 6 ls [.int 1]) (by rw [hb1]; rfl) ?_
    have hm1_ : fn1 m0 = some (eM r 1 (nI np) (nI ng) (nI nt) (nI kp) (nI rr) ck lim dz gd hih mih fh msh msm mso sp rf) := by rw [efn1]; exact hm_us
    have h58 : fn1 ((r 0)) = some (eI Γ 4 mon) := by rw [efn1]; exact (hm_un (hm_ne h0 hm0 (fun q => by cases q))).trans h0
    have h59 : fn1 ((r 1)) = some (eJ Γ 8 (fun i => b4 (gs i).2.1)) := by rw [efn1]; exact (hm_un (hm_ne hg1 hm0 (fun q => by cases q))).trans hg1
    have h60 : fn1 ((r 2)) = some (eI Γ 8 (fun i => nI (gs i).2.2.1)) := by rw [efn1]; exact (hm_un (hm_ne hg2 hm0 (fun q => by cases q))).trans hg2
    have h61 : fn1 ((r 3)) = some (eI Γ 8 (fun i => nI (gs i).1)) := by rw [efn1]; exact (hm_un (hm_ne hg3 hm0 (fun q => by cases q))).trans hg3
    have h62 : fn1 ((r 4)) = some (eI Γ 8 (fun i => (gs i).2.2.2.1)) := by rw [efn1]; exact (hm_un (hm_ne hg4 hm0 (fun q => by cases q))).trans hg4
    have h63 : fn1 ((r 5)) = some (eI Γ 8 (fun i => (gs i).2.2.2.2.1)) := by rw [efn1]; exact (hm_un (hm_ne hg5 hm0 (fun q => by cases q))).trans hg5
    have h64 : fn1 ((r 6)) = some (eI Γ 8 (fun i => (gs i).2.2.2.2.2.1)) := by rw [efn1]; exact (hm_un (hm_ne hg6 hm0 (fun q => by cases q))).trans hg6
    have h65 : fn1 ((r 7)) = some (eI Γ 8 (fun i => (gs i).2.2.2.2.2.2.1)) := by rw [efn1]; exact (hm_un (hm_ne hg7 hm0 (fun q => by cases q))).trans hg7
    have h66 : fn1 ((r 8)) = some (eI Γ 8 (fun i => (gs i).2.2.2.2.2.2.2.1)) := by rw [efn1]; exact (hm_un (hm_ne hg8 hm0 (fun q => by cases q))).trans hg8
    have h67 : fn1 ((r 9)) = some (eZ Γ 8 (fun i => bI (gs i).2.2.2.2.2.2.2.2)) := by rw [efn1]; exact (hm_un (hm_ne hg9 hm0 (fun q => by cases q))).trans hg9
    have h68 : fn1 ((r 10)) = some (eJ Γ 60 (fun i => b4 (ts i).2.1)) := by rw [efn1]; exact (hm_un (hm_ne ht10 hm0 (fun q => by cases q))).trans ht10
    have h69 : fn1 ((r 11)) = some (eI Γ 60 (fun i => nI (ts i).2.2.1)) := by rw [efn1]; exact (hm_un (hm_ne ht11 hm0 (fun q => by cases q))).trans ht11
    have h70 : fn1 ((r 12)) = some (eI Γ 60 (fun i => nI (ts i).1)) := by rw [efn1]; exact (hm_un (hm_ne ht12 hm0 (fun q => by cases q))).trans ht12
    have h71 : fn1 ((r 13)) = some (eI Γ 60 (fun i => (ts i).2.2.2)) := by rw [efn1]; exact (hm_un (hm_ne ht13 hm0 (fun q => by cases q))).trans ht13
    have h72 : fn1 ((r 14)) = some (eJ Γ 64 (fun j => (K j).1)) := by rw [efn1]; exact (hm_un (hm_ne hk0 hm0 (fun q => by cases q))).trans hk0
    have h73 : fn1 ((r 15)) = some (eI Γ 64 (fun j => (K j).2.1)) := by rw [efn1]; exact (hm_un (hm_ne hk1 hm0 (fun q => by cases q))).trans hk1
    have h74 : fn1 ((r 16)) = some (eI Γ 64 (fun j => (K j).2.2.1)) := by rw [efn1]; exact (hm_un (hm_ne hk2 hm0 (fun q => by cases q))).trans hk2
    have h75 : fn1 ((r 17)) = some (eI Γ 64 (fun j => (K j).2.2.2.1)) := by rw [efn1]; exact (hm_un (hm_ne hk3 hm0 (fun q => by cases q))).trans hk3
    have h76 : fn1 ((r 18)) = some (eI Γ 64 (fun j => (K j).2.2.2.2.1)) := by rw [efn1]; exact (hm_un (hm_ne hk4 hm0 (fun q => by cases q))).trans hk4
    have h77 : fn1 ((r 19)) = some (eI Γ 64 (fun j => (K j).2.2.2.2.2.1)) := by rw [efn1]; exact (hm_un (hm_ne hk5 hm0 (fun q => by cases q))).trans hk5
    have h78 : fn1 ((r 20)) = some (eI Γ 64 (fun j => (K j).2.2.2.2.2.2)) := by rw [efn1]; exact (hm_un (hm_ne hk6 hm0 (fun q => by cases q))).trans hk6
    have h79 : fn1 ((r 21)) = some (eJ Γ 6 pb) := by rw [efn1]; exact (hm_un (hm_ne hp0 hm0 (fun q => by cases q))).trans hp0
    have h80 : fn1 ((r 22)) = some (eI Γ 6 pz) := by rw [efn1]; exact (hm_un (hm_ne hp1 hm0 (fun q => by cases q))).trans hp1
    have h81 : fn1 ((r 23)) = some (eI Γ 6 pd) := by rw [efn1]; exact (hm_un (hm_ne hp2 hm0 (fun q => by cases q))).trans hp2
    have h82 : fn1 ((r 24)) = some (eI Γ 6 pn) := by rw [efn1]; exact (hm_un (hm_ne hp3 hm0 (fun q => by cases q))).trans hp3
    have h83 : fn1 ((r 25)) = some (eI Γ 6 pe) := by rw [efn1]; exact (hm_un (hm_ne hp4 hm0 (fun q => by cases q))).trans hp4
    have h84 : fn1 ((r 26)) = some (eI Γ 6 ph) := by rw [efn1]; exact (hm_un (hm_ne hp5 hm0 (fun q => by cases q))).trans hp5
    have h85 : fn1 ((r 27)) = some (eI Γ 6 pg) := by rw [efn1]; exact (hm_un (hm_ne hp6 hm0 (fun q => by cases q))).trans hp6
    refine lv_if_ne (tgt := 34) hx hb dX8_isCached_6 (by decide) (fun _ => ?_) (fun c92 => absurd c92 (by decide))
    refine lv_iconst (v := 0) hx hb dX8_isCached_34 (by decide) ?_
    have hfr9 : hm_fr (mS m0 r) f fn1 := by
      rw [efn1]
      exact (hm_fr.rf (S := mS m0 r)).up mS_0
    exact hm_zret hx hb hr rfl hlocks hS hH (⟨Or.inr ⟨by rw [hb1]; exact (show (1 : Int32) ≠ 0 by decide), ⟨_, rfl⟩, by rw [hb1]; exact MW.mk hm1_ ⟨⟨h72, h73, h74, h75, h76, h77, h78⟩, ⟨_, _, _, _, _, _, _, h79, h80, h81, h82, h83, h84, h85⟩, h58, ⟨h59, h60, h61, h62, h63, h64, h65, h66, h67⟩, h68, h69, h70, h71⟩⟩, hfr9.k⟩) (Nat.le_of_ble_eq_true rfl) (Nat.le_of_ble_eq_true rfl) dX8_isCached_35
set_option maxHeartbeats 4000000 in
set_option maxRecDepth 100000 in
theorem w_X8_worth (Γ : Gm) (l : Launch) (m0 : Nat) (r : Nat → Nat) (th : Int32) (K : Nat → EV) (kp : Nat) (ck msh msm mso : Int32) (np : Nat) (mon : Nat → Int32) (ng : Nat) (gs : Nat → GS) (nt : Nat) (ts : Nat → TR) (lim : Int32) (rf sp : Int64) (rr : Nat) (v0 v1 : Int32) (f : Hm) (hM : MW Γ f m0 r th K kp ck msh msm mso np mon ng gs nt ts lim rf sp rr) (hnp : np ≤ 4) (hng : ng ≤ 8) (hnt : nt ≤ 60) (hr1 : 1 ≤ rr) (hrr : rr ≤ 64) (hkr : kp ≤ rr) (hrI : rI r) (hgs : GOK np ng gs) (hmk : ∀ a, a < kp → mok (K a)) : Ct Γ l yX8_worth cX8_worth 3 (some .int) 5 0 0 [.ref m0, .int v0, .int v1] f (mP (if inB v0 (nI ng) then (if inR v1 0 4 then 0 else 2) else 1) (nI (wp (ix v1) (gs (ix v0)).2.1 (gs (ix v0)).2.2.1).1) (mS m0 r) f (fun f' => MW Γ f' m0 r 0 K kp ck msh msm mso np mon ng gs nt ts lim rf sp rr) (fun f' => MW Γ f' m0 r ((if inB v0 (nI ng) then (if inR v1 0 4 then 0 else 2) else 1)) K kp ck msh msm mso np mon ng gs nt ts lim rf sp rr)) := by
  refine Ct_of (by decide +kernel) (Nat.le_of_ble_eq_true rfl) ?_
  intro p e s m args below meth c hx hb hr hml hown hin hlocks hts hH hO hK ls hl
  have hl : lv_has ls 3 [(0, .ref m0), (1, .int v0), (2, .int v1)] := hl
  have hS : va_S (gA Γ) s.heap s.heap [] := va_S.rf
  obtain ⟨⟨dz, gd, hih, mih, fh, hm0⟩, hR⟩ := id hM
  obtain ⟨⟨hk0, hk1, hk2, hk3, hk4, hk5, hk6⟩, ⟨pb, pz, pd, pn, pe, ph, pg, hp0, hp1, hp2, hp3, hp4, hp5, hp6⟩, h0, ⟨hg1, hg2, hg3, hg4, hg5, hg6, hg7, hg8, hg9⟩, ht10, ht11, ht12, ht13⟩ := id hR
  refine lv_aload_n hx hb dX8_worth_0 rfl (lv_at hl 0 rfl) ?_
  refine lv_iload_n hx hb dX8_worth_1 rfl (lv_at hl 1 rfl) ?_
  refine hm_callV (rest := []) (k := 2) q5_146 q5_148 q1_9 q5_149 q0_19 rfl nm_X8_noGame rfl hx hb hml hown hts hK hO hS hH hl.1 hm0 (c_X8_noGame Γ l m0 r th (nI np) (nI ng) (nI nt) (nI kp) (nI rr) ck lim dz gd hih mih fh msh msm mso sp rf v0 f hm0) ⟨Nat.le_of_ble_eq_true rfl, Nat.le_of_ble_eq_true rfl⟩ ⟨Nat.le_of_ble_eq_true rfl, Nat.le_of_ble_eq_true rfl⟩ rfl (Nat.le_of_ble_eq_true rfl) dX8_worth_2 (fun v_ fn1 H locs hp_ hH hS => ?_)
  obtain ⟨rfl, efn1⟩ := hp_
  rcases bTF (inB v0 (nI ng)) with hb1 | hb1
  · rw [hb1] at efn1
    refine W.eq (g2 := F0 m 5 ls [.int 0]) (by rw [hb1]; rfl) ?_
    have hm1_ : fn1 m0 = some (eM r 0 (nI np) (nI ng) (nI nt) (nI kp) (nI rr) ck lim dz gd hih mih fh msh msm mso sp rf) := by rw [efn1]; exact hm_us
    have h2 : fn1 ((r 0)) = some (eI Γ 4 mon) := by rw [efn1]; exact (hm_un (hm_ne h0 hm0 (fun q => by cases q))).trans h0
    have h3 : fn1 ((r 1)) = some (eJ Γ 8 (fun i => b4 (gs i).2.1)) := by rw [efn1]; exact (hm_un (hm_ne hg1 hm0 (fun q => by cases q))).trans hg1
    have h4 : fn1 ((r 2)) = some (eI Γ 8 (fun i => nI (gs i).2.2.1)) := by rw [efn1]; exact (hm_un (hm_ne hg2 hm0 (fun q => by cases q))).trans hg2
    have h5 : fn1 ((r 3)) = some (eI Γ 8 (fun i => nI (gs i).1)) := by rw [efn1]; exact (hm_un (hm_ne hg3 hm0 (fun q => by cases q))).trans hg3
    have h6 : fn1 ((r 4)) = some (eI Γ 8 (fun i => (gs i).2.2.2.1)) := by rw [efn1]; exact (hm_un (hm_ne hg4 hm0 (fun q => by cases q))).trans hg4
    have h7 : fn1 ((r 5)) = some (eI Γ 8 (fun i => (gs i).2.2.2.2.1)) := by rw [efn1]; exact (hm_un (hm_ne hg5 hm0 (fun q => by cases q))).trans hg5
    have h8 : fn1 ((r 6)) = some (eI Γ 8 (fun i => (gs i).2.2.2.2.2.1)) := by rw [efn1]; exact (hm_un (hm_ne hg6 hm0 (fun q => by cases q))).trans hg6
    have h9 : fn1 ((r 7)) = some (eI Γ 8 (fun i => (gs i).2.2.2.2.2.2.1)) := by rw [efn1]; exact (hm_un (hm_ne hg7 hm0 (fun q => by cases q))).trans hg7
    have h10 : fn1 ((r 8)) = some (eI Γ 8 (fun i => (gs i).2.2.2.2.2.2.2.1)) := by rw [efn1]; exact (hm_un (hm_ne hg8 hm0 (fun q => by cases q))).trans hg8
    have h11 : fn1 ((r 9)) = some (eZ Γ 8 (fun i => bI (gs i).2.2.2.2.2.2.2.2)) := by rw [efn1]; exact (hm_un (hm_ne hg9 hm0 (fun q => by cases q))).trans hg9
    have h12 : fn1 ((r 10)) = some (eJ Γ 60 (fun i => b4 (ts i).2.1)) := by rw [efn1]; exact (hm_un (hm_ne ht10 hm0 (fun q => by cases q))).trans ht10
    have h13 : fn1 ((r 11)) = some (eI Γ 60 (fun i => nI (ts i).2.2.1)) := by rw [efn1]; exact (hm_un (hm_ne ht11 hm0 (fun q => by cases q))).trans ht11
    have h14 : fn1 ((r 12)) = some (eI Γ 60 (fun i => nI (ts i).1)) := by rw [efn1]; exact (hm_un (hm_ne ht12 hm0 (fun q => by cases q))).trans ht12
    have h15 : fn1 ((r 13)) = some (eI Γ 60 (fun i => (ts i).2.2.2)) := by rw [efn1]; exact (hm_un (hm_ne ht13 hm0 (fun q => by cases q))).trans ht13
    have h16 : fn1 ((r 14)) = some (eJ Γ 64 (fun j => (K j).1)) := by rw [efn1]; exact (hm_un (hm_ne hk0 hm0 (fun q => by cases q))).trans hk0
    have h17 : fn1 ((r 15)) = some (eI Γ 64 (fun j => (K j).2.1)) := by rw [efn1]; exact (hm_un (hm_ne hk1 hm0 (fun q => by cases q))).trans hk1
    have h18 : fn1 ((r 16)) = some (eI Γ 64 (fun j => (K j).2.2.1)) := by rw [efn1]; exact (hm_un (hm_ne hk2 hm0 (fun q => by cases q))).trans hk2
    have h19 : fn1 ((r 17)) = some (eI Γ 64 (fun j => (K j).2.2.2.1)) := by rw [efn1]; exact (hm_un (hm_ne hk3 hm0 (fun q => by cases q))).trans hk3
    have h20 : fn1 ((r 18)) = some (eI Γ 64 (fun j => (K j).2.2.2.2.1)) := by rw [efn1]; exact (hm_un (hm_ne hk4 hm0 (fun q => by cases q))).trans hk4
    have h21 : fn1 ((r 19)) = some (eI Γ 64 (fun j => (K j).2.2.2.2.2.1)) := by rw [efn1]; exact (hm_un (hm_ne hk5 hm0 (fun q => by cases q))).trans hk5
    have h22 : fn1 ((r 20)) = some (eI Γ 64 (fun j => (K j).2.2.2.2.2.2)) := by rw [efn1]; exact (hm_un (hm_ne hk6 hm0 (fun q => by cases q))).trans hk6
    have h23 : fn1 ((r 21)) = some (eJ Γ 6 pb) := by rw [efn1]; exact (hm_un (hm_ne hp0 hm0 (fun q => by cases q))).trans hp0
    have h24 : fn1 ((r 22)) = some (eI Γ 6 pz) := by rw [efn1]; exact (hm_un (hm_ne hp1 hm0 (fun q => by cases q))).trans hp1
    have h25 : fn1 ((r 23)) = some (eI Γ 6 pd) := by rw [efn1]; exact (hm_un (hm_ne hp2 hm0 (fun q => by cases q))).trans hp2
    have h26 : fn1 ((r 24)) = some (eI Γ 6 pn) := by rw [efn1]; exact (hm_un (hm_ne hp3 hm0 (fun q => by cases q))).trans hp3
    have h27 : fn1 ((r 25)) = some (eI Γ 6 pe) := by rw [efn1]; exact (hm_un (hm_ne hp4 hm0 (fun q => by cases q))).trans hp4
    have h28 : fn1 ((r 26)) = some (eI Γ 6 ph) := by rw [efn1]; exact (hm_un (hm_ne hp5 hm0 (fun q => by cases q))).trans hp5
    have h29 : fn1 ((r 27)) = some (eI Γ 6 pg) := by rw [efn1]; exact (hm_un (hm_ne hp6 hm0 (fun q => by cases q))).trans hp6
    obtain ⟨i, hi, rfl⟩ := (inB_iff (by omega)).mp hb1
    obtain ⟨hgo, hgw, hgz⟩ := hgs i hi
    have hi8 : i < 8 := by omega
    have hix : ix (nI i) = i := ix_nI (by omega)
    have ht15 : tl 15 (gs i).2.1 := tl_mono (tl12 (by omega)) (by decide)
    refine lv_if_ne (tgt := 30) hx hb dX8_worth_5 (by decide) (fun c58 => absurd (by decide) c58) (fun _ => ?_)
    refine lv_aload_n hx hb dX8_worth_8 rfl (lv_at hl 0 rfl) ?_
    refine lv_iload_n hx hb dX8_worth_9 rfl (lv_at hl 2 rfl) ?_
    refine lv_if_lt (tgt := 22) hx hb dX8_worth_10 (by decide) (fun c59 => ?_) (fun c59 => ?_)
    · refine lv_iconst (v := 0) hx hb dX8_worth_22 (by decide) ?_
      refine lv_iconst (v := 2) hx hb dX8_worth_23 (by decide) ?_
      have hb60 : (inR v1 0 4) = false := (by unfold inR; rw [decide_eq_false (Int32.not_le.mpr c59)]; rfl)
      refine W.eq (g2 := F0 m 24 ls [.int 2, .int (bI (inR v1 0 4)), .ref m0]) (by rw [hb60]; rfl) ?_
      refine hm_callV (rest := []) (k := 1) q5_119 q5_121 q1_9 q5_122 q0_17 rfl nm_X8_no rfl hx hb hml hown hts hK hO hS hH hl.1 hm1_ (c_X8_no Γ l m0 r 0 (nI np) (nI ng) (nI nt) (nI kp) (nI rr) ck lim dz gd hih mih fh msh msm mso sp rf (inR v1 0 4) 2 fn1 hm1_) ⟨Nat.le_of_ble_eq_true rfl, Nat.le_of_ble_eq_true rfl⟩ ⟨Nat.le_of_ble_eq_true rfl, Nat.le_of_ble_eq_true rfl⟩ rfl (Nat.le_of_ble_eq_true rfl) dX8_worth_24 (fun v_ fn61 H locs hp_ hH hS => ?_)
      obtain ⟨rfl, efn61⟩ := hp_
      rw [hb60] at efn61
      refine W.eq (g2 := F0 m 27 ls [.int 1]) (by rw [hb60]; rfl) ?_
      have hm62 : fn61 m0 = some (eM r 2 (nI np) (nI ng) (nI nt) (nI kp) (nI rr) ck lim dz gd hih mih fh msh msm mso sp rf) := by rw [efn61]; exact hm_us
      have h63 : fn61 ((r 0)) = some (eI Γ 4 mon) := by rw [efn61]; exact (hm_un (hm_ne h2 hm1_ (fun q => by cases q))).trans h2
      have h64 : fn61 ((r 1)) = some (eJ Γ 8 (fun i => b4 (gs i).2.1)) := by rw [efn61]; exact (hm_un (hm_ne h3 hm1_ (fun q => by cases q))).trans h3
      have h65 : fn61 ((r 2)) = some (eI Γ 8 (fun i => nI (gs i).2.2.1)) := by rw [efn61]; exact (hm_un (hm_ne h4 hm1_ (fun q => by cases q))).trans h4
      have h66 : fn61 ((r 3)) = some (eI Γ 8 (fun i => nI (gs i).1)) := by rw [efn61]; exact (hm_un (hm_ne h5 hm1_ (fun q => by cases q))).trans h5
      have h67 : fn61 ((r 4)) = some (eI Γ 8 (fun i => (gs i).2.2.2.1)) := by rw [efn61]; exact (hm_un (hm_ne h6 hm1_ (fun q => by cases q))).trans h6
      have h68 : fn61 ((r 5)) = some (eI Γ 8 (fun i => (gs i).2.2.2.2.1)) := by rw [efn61]; exact (hm_un (hm_ne h7 hm1_ (fun q => by cases q))).trans h7
      have h69 : fn61 ((r 6)) = some (eI Γ 8 (fun i => (gs i).2.2.2.2.2.1)) := by rw [efn61]; exact (hm_un (hm_ne h8 hm1_ (fun q => by cases q))).trans h8
      have h70 : fn61 ((r 7)) = some (eI Γ 8 (fun i => (gs i).2.2.2.2.2.2.1)) := by rw [efn61]; exact (hm_un (hm_ne h9 hm1_ (fun q => by cases q))).trans h9
      have h71 : fn61 ((r 8)) = some (eI Γ 8 (fun i => (gs i).2.2.2.2.2.2.2.1)) := by rw [efn61]; exact (hm_un (hm_ne h10 hm1_ (fun q => by cases q))).trans h10
      have h72 : fn61 ((r 9)) = some (eZ Γ 8 (fun i => bI (gs i).2.2.2.2.2.2.2.2)) := by rw [efn61]; exact (hm_un (hm_ne h11 hm1_ (fun q => by cases q))).trans h11
      have h73 : fn61 ((r 10)) = some (eJ Γ 60 (fun i => b4 (ts i).2.1)) := by rw [efn61]; exact (hm_un (hm_ne h12 hm1_ (fun q => by cases q))).trans h12
      have h74 : fn61 ((r 11)) = some (eI Γ 60 (fun i => nI (ts i).2.2.1)) := by rw [efn61]; exact (hm_un (hm_ne h13 hm1_ (fun q => by cases q))).trans h13
      have h75 : fn61 ((r 12)) = some (eI Γ 60 (fun i => nI (ts i).1)) := by rw [efn61]; exact (hm_un (hm_ne h14 hm1_ (fun q => by cases q))).trans h14
      have h76 : fn61 ((r 13)) = some (eI Γ 60 (fun i => (ts i).2.2.2)) := by rw [efn61]; exact (hm_un (hm_ne h15 hm1_ (fun q => by cases q))).trans h15
      have h77 : fn61 ((r 14)) = some (eJ Γ 64 (fun j => (K j).1)) := by rw [efn61]; exact (hm_un (hm_ne h16 hm1_ (fun q => by cases q))).trans h16
      have h78 : fn61 ((r 15)) = some (eI Γ 64 (fun j => (K j).2.1)) := by rw [efn61]; exact (hm_un (hm_ne h17 hm1_ (fun q => by cases q))).trans h17
      have h79 : fn61 ((r 16)) = some (eI Γ 64 (fun j => (K j).2.2.1)) := by rw [efn61]; exact (hm_un (hm_ne h18 hm1_ (fun q => by cases q))).trans h18
      have h80 : fn61 ((r 17)) = some (eI Γ 64 (fun j => (K j).2.2.2.1)) := by rw [efn61]; exact (hm_un (hm_ne h19 hm1_ (fun q => by cases q))).trans h19
      have h81 : fn61 ((r 18)) = some (eI Γ 64 (fun j => (K j).2.2.2.2.1)) := by rw [efn61]; exact (hm_un (hm_ne h20 hm1_ (fun q => by cases q))).trans h20
      have h82 : fn61 ((r 19)) = some (eI Γ 64 (fun j => (K j).2.2.2.2.2.1)) := by rw [efn61]; exact (hm_un (hm_ne h21 hm1_ (fun q => by cases q))).trans h21
      have h83 : fn61 ((r 20)) = some (eI Γ 64 (fun j => (K j).2.2.2.2.2.2)) := by rw [efn61]; exact (hm_un (hm_ne h22 hm1_ (fun q => by cases q))).trans h22
      have h84 : fn61 ((r 21)) = some (eJ Γ 6 pb) := by rw [efn61]; exact (hm_un (hm_ne h23 hm1_ (fun q => by cases q))).trans h23
      have h85 : fn61 ((r 22)) = some (eI Γ 6 pz) := by rw [efn61]; exact (hm_un (hm_ne h24 hm1_ (fun q => by cases q))).trans h24
      have h86 : fn61 ((r 23)) = some (eI Γ 6 pd) := by rw [efn61]; exact (hm_un (hm_ne h25 hm1_ (fun q => by cases q))).trans h25
      have h87 : fn61 ((r 24)) = some (eI Γ 6 pn) := by rw [efn61]; exact (hm_un (hm_ne h26 hm1_ (fun q => by cases q))).trans h26
      have h88 : fn61 ((r 25)) = some (eI Γ 6 pe) := by rw [efn61]; exact (hm_un (hm_ne h27 hm1_ (fun q => by cases q))).trans h27
      have h89 : fn61 ((r 26)) = some (eI Γ 6 ph) := by rw [efn61]; exact (hm_un (hm_ne h28 hm1_ (fun q => by cases q))).trans h28
      have h90 : fn61 ((r 27)) = some (eI Γ 6 pg) := by rw [efn61]; exact (hm_un (hm_ne h29 hm1_ (fun q => by cases q))).trans h29
      refine lv_if_eq (tgt := 34) hx hb dX8_worth_27 (by decide) (fun c91 => absurd c91 (by decide)) (fun _ => ?_)
      refine lv_iconst (v := 0) hx hb dX8_worth_30 (by decide) ?_
      refine lv_goto (tgt := 52) hx hb dX8_worth_31 (by decide) ?_
      have hfr9 : hm_fr (mS m0 r) f fn61 := by
        rw [efn61, efn1]
        exact ((hm_fr.rf (S := mS m0 r)).up mS_0).up mS_0
      exact hm_iret hx hb hr hlocks hS hH (⟨Or.inr ⟨by rw [hb1]; (try rw [hix]); rw [hb60]; exact (show (2 : Int32) ≠ 0 by decide), ⟨_, rfl⟩, by rw [hb1]; (try rw [hix]); rw [hb60]; exact MW.mk hm62 ⟨⟨h77, h78, h79, h80, h81, h82, h83⟩, ⟨_, _, _, _, _, _, _, h84, h85, h86, h87, h88, h89, h90⟩, h63, ⟨h64, h65, h66, h67, h68, h69, h70, h71, h72⟩, h73, h74, h75, h76⟩⟩, hfr9.k⟩) (Nat.le_of_ble_eq_true rfl) (Nat.le_of_ble_eq_true rfl) dX8_worth_52
    · refine lv_iload_n hx hb dX8_worth_13 rfl (lv_at hl 2 rfl) ?_
      refine lv_iconst (v := 4) hx hb dX8_worth_14 (by decide) ?_
      refine lv_icmp_gt (tgt := 22) hx hb dX8_worth_15 (by decide) (fun c92 => ?_) (fun c92 => ?_)
      · refine lv_iconst (v := 0) hx hb dX8_worth_22 (by decide) ?_
        refine lv_iconst (v := 2) hx hb dX8_worth_23 (by decide) ?_
        have hb93 : (inR v1 0 4) = false := (by unfold inR; rw [decide_eq_false (Int32.not_le.mpr c92), Bool.and_false])
        refine W.eq (g2 := F0 m 24 ls [.int 2, .int (bI (inR v1 0 4)), .ref m0]) (by rw [hb93]; rfl) ?_
        refine hm_callV (rest := []) (k := 1) q5_119 q5_121 q1_9 q5_122 q0_17 rfl nm_X8_no rfl hx hb hml hown hts hK hO hS hH hl.1 hm1_ (c_X8_no Γ l m0 r 0 (nI np) (nI ng) (nI nt) (nI kp) (nI rr) ck lim dz gd hih mih fh msh msm mso sp rf (inR v1 0 4) 2 fn1 hm1_) ⟨Nat.le_of_ble_eq_true rfl, Nat.le_of_ble_eq_true rfl⟩ ⟨Nat.le_of_ble_eq_true rfl, Nat.le_of_ble_eq_true rfl⟩ rfl (Nat.le_of_ble_eq_true rfl) dX8_worth_24 (fun v_ fn94 H locs hp_ hH hS => ?_)
        obtain ⟨rfl, efn94⟩ := hp_
        rw [hb93] at efn94
        refine W.eq (g2 := F0 m 27 ls [.int 1]) (by rw [hb93]; rfl) ?_
        have hm95 : fn94 m0 = some (eM r 2 (nI np) (nI ng) (nI nt) (nI kp) (nI rr) ck lim dz gd hih mih fh msh msm mso sp rf) := by rw [efn94]; exact hm_us
        have h96 : fn94 ((r 0)) = some (eI Γ 4 mon) := by rw [efn94]; exact (hm_un (hm_ne h2 hm1_ (fun q => by cases q))).trans h2
        have h97 : fn94 ((r 1)) = some (eJ Γ 8 (fun i => b4 (gs i).2.1)) := by rw [efn94]; exact (hm_un (hm_ne h3 hm1_ (fun q => by cases q))).trans h3
        have h98 : fn94 ((r 2)) = some (eI Γ 8 (fun i => nI (gs i).2.2.1)) := by rw [efn94]; exact (hm_un (hm_ne h4 hm1_ (fun q => by cases q))).trans h4
        have h99 : fn94 ((r 3)) = some (eI Γ 8 (fun i => nI (gs i).1)) := by rw [efn94]; exact (hm_un (hm_ne h5 hm1_ (fun q => by cases q))).trans h5
        have h100 : fn94 ((r 4)) = some (eI Γ 8 (fun i => (gs i).2.2.2.1)) := by rw [efn94]; exact (hm_un (hm_ne h6 hm1_ (fun q => by cases q))).trans h6
        have h101 : fn94 ((r 5)) = some (eI Γ 8 (fun i => (gs i).2.2.2.2.1)) := by rw [efn94]; exact (hm_un (hm_ne h7 hm1_ (fun q => by cases q))).trans h7
        have h102 : fn94 ((r 6)) = some (eI Γ 8 (fun i => (gs i).2.2.2.2.2.1)) := by rw [efn94]; exact (hm_un (hm_ne h8 hm1_ (fun q => by cases q))).trans h8
        have h103 : fn94 ((r 7)) = some (eI Γ 8 (fun i => (gs i).2.2.2.2.2.2.1)) := by rw [efn94]; exact (hm_un (hm_ne h9 hm1_ (fun q => by cases q))).trans h9
        have h104 : fn94 ((r 8)) = some (eI Γ 8 (fun i => (gs i).2.2.2.2.2.2.2.1)) := by rw [efn94]; exact (hm_un (hm_ne h10 hm1_ (fun q => by cases q))).trans h10
        have h105 : fn94 ((r 9)) = some (eZ Γ 8 (fun i => bI (gs i).2.2.2.2.2.2.2.2)) := by rw [efn94]; exact (hm_un (hm_ne h11 hm1_ (fun q => by cases q))).trans h11
        have h106 : fn94 ((r 10)) = some (eJ Γ 60 (fun i => b4 (ts i).2.1)) := by rw [efn94]; exact (hm_un (hm_ne h12 hm1_ (fun q => by cases q))).trans h12
        have h107 : fn94 ((r 11)) = some (eI Γ 60 (fun i => nI (ts i).2.2.1)) := by rw [efn94]; exact (hm_un (hm_ne h13 hm1_ (fun q => by cases q))).trans h13
        have h108 : fn94 ((r 12)) = some (eI Γ 60 (fun i => nI (ts i).1)) := by rw [efn94]; exact (hm_un (hm_ne h14 hm1_ (fun q => by cases q))).trans h14
        have h109 : fn94 ((r 13)) = some (eI Γ 60 (fun i => (ts i).2.2.2)) := by rw [efn94]; exact (hm_un (hm_ne h15 hm1_ (fun q => by cases q))).trans h15
        have h110 : fn94 ((r 14)) = some (eJ Γ 64 (fun j => (K j).1)) := by rw [efn94]; exact (hm_un (hm_ne h16 hm1_ (fun q => by cases q))).trans h16
        have h111 : fn94 ((r 15)) = some (eI Γ 64 (fun j => (K j).2.1)) := by rw [efn94]; exact (hm_un (hm_ne h17 hm1_ (fun q => by cases q))).trans h17
        have h112 : fn94 ((r 16)) = some (eI Γ 64 (fun j => (K j).2.2.1)) := by rw [efn94]; exact (hm_un (hm_ne h18 hm1_ (fun q => by cases q))).trans h18
        have h113 : fn94 ((r 17)) = some (eI Γ 64 (fun j => (K j).2.2.2.1)) := by rw [efn94]; exact (hm_un (hm_ne h19 hm1_ (fun q => by cases q))).trans h19
        have h114 : fn94 ((r 18)) = some (eI Γ 64 (fun j => (K j).2.2.2.2.1)) := by rw [efn94]; exact (hm_un (hm_ne h20 hm1_ (fun q => by cases q))).trans h20
        have h115 : fn94 ((r 19)) = some (eI Γ 64 (fun j => (K j).2.2.2.2.2.1)) := by rw [efn94]; exact (hm_un (hm_ne h21 hm1_ (fun q => by cases q))).trans h21
        have h116 : fn94 ((r 20)) = some (eI Γ 64 (fun j => (K j).2.2.2.2.2.2)) := by rw [efn94]; exact (hm_un (hm_ne h22 hm1_ (fun q => by cases q))).trans h22
        have h117 : fn94 ((r 21)) = some (eJ Γ 6 pb) := by rw [efn94]; exact (hm_un (hm_ne h23 hm1_ (fun q => by cases q))).trans h23
        have h118 : fn94 ((r 22)) = some (eI Γ 6 pz) := by rw [efn94]; exact (hm_un (hm_ne h24 hm1_ (fun q => by cases q))).trans h24
        have h119 : fn94 ((r 23)) = some (eI Γ 6 pd) := by rw [efn94]; exact (hm_un (hm_ne h25 hm1_ (fun q => by cases q))).trans h25
        have h120 : fn94 ((r 24)) = some (eI Γ 6 pn) := by rw [efn94]; exact (hm_un (hm_ne h26 hm1_ (fun q => by cases q))).trans h26
        have h121 : fn94 ((r 25)) = some (eI Γ 6 pe) := by rw [efn94]; exact (hm_un (hm_ne h27 hm1_ (fun q => by cases q))).trans h27
        have h122 : fn94 ((r 26)) = some (eI Γ 6 ph) := by rw [efn94]; exact (hm_un (hm_ne h28 hm1_ (fun q => by cases q))).trans h28
        have h123 : fn94 ((r 27)) = some (eI Γ 6 pg) := by rw [efn94]; exact (hm_un (hm_ne h29 hm1_ (fun q => by cases q))).trans h29
        refine lv_if_eq (tgt := 34) hx hb dX8_worth_27 (by decide) (fun c124 => absurd c124 (by decide)) (fun _ => ?_)
        refine lv_iconst (v := 0) hx hb dX8_worth_30 (by decide) ?_
        refine lv_goto (tgt := 52) hx hb dX8_worth_31 (by decide) ?_
        have hfr9 : hm_fr (mS m0 r) f fn94 := by
          rw [efn94, efn1]
          exact ((hm_fr.rf (S := mS m0 r)).up mS_0).up mS_0
        exact hm_iret hx hb hr hlocks hS hH (⟨Or.inr ⟨by rw [hb1]; (try rw [hix]); rw [hb93]; exact (show (2 : Int32) ≠ 0 by decide), ⟨_, rfl⟩, by rw [hb1]; (try rw [hix]); rw [hb93]; exact MW.mk hm95 ⟨⟨h110, h111, h112, h113, h114, h115, h116⟩, ⟨_, _, _, _, _, _, _, h117, h118, h119, h120, h121, h122, h123⟩, h96, ⟨h97, h98, h99, h100, h101, h102, h103, h104, h105⟩, h106, h107, h108, h109⟩⟩, hfr9.k⟩) (Nat.le_of_ble_eq_true rfl) (Nat.le_of_ble_eq_true rfl) dX8_worth_52
      · refine lv_iconst (v := 1) hx hb dX8_worth_18 (by decide) ?_
        refine lv_goto (tgt := 23) hx hb dX8_worth_19 (by decide) ?_
        refine lv_iconst (v := 2) hx hb dX8_worth_23 (by decide) ?_
        have hb125 : (inR v1 0 4) = true := (by unfold inR; rw [decide_eq_true (Int32.not_lt.mp c59), decide_eq_true (Int32.not_lt.mp c92)]; rfl)
        refine W.eq (g2 := F0 m 24 ls [.int 2, .int (bI (inR v1 0 4)), .ref m0]) (by rw [hb125]; rfl) ?_
        refine hm_callV (rest := []) (k := 1) q5_119 q5_121 q1_9 q5_122 q0_17 rfl nm_X8_no rfl hx hb hml hown hts hK hO hS hH hl.1 hm1_ (c_X8_no Γ l m0 r 0 (nI np) (nI ng) (nI nt) (nI kp) (nI rr) ck lim dz gd hih mih fh msh msm mso sp rf (inR v1 0 4) 2 fn1 hm1_) ⟨Nat.le_of_ble_eq_true rfl, Nat.le_of_ble_eq_true rfl⟩ ⟨Nat.le_of_ble_eq_true rfl, Nat.le_of_ble_eq_true rfl⟩ rfl (Nat.le_of_ble_eq_true rfl) dX8_worth_24 (fun v_ fn126 H locs hp_ hH hS => ?_)
        obtain ⟨rfl, efn126⟩ := hp_
        rw [hb125] at efn126
        refine W.eq (g2 := F0 m 27 ls [.int 0]) (by rw [hb125]; rfl) ?_
        have hm127 : fn126 m0 = some (eM r 0 (nI np) (nI ng) (nI nt) (nI kp) (nI rr) ck lim dz gd hih mih fh msh msm mso sp rf) := by rw [efn126]; exact hm_us
        have h128 : fn126 ((r 0)) = some (eI Γ 4 mon) := by rw [efn126]; exact (hm_un (hm_ne h2 hm1_ (fun q => by cases q))).trans h2
        have h129 : fn126 ((r 1)) = some (eJ Γ 8 (fun i => b4 (gs i).2.1)) := by rw [efn126]; exact (hm_un (hm_ne h3 hm1_ (fun q => by cases q))).trans h3
        have h130 : fn126 ((r 2)) = some (eI Γ 8 (fun i => nI (gs i).2.2.1)) := by rw [efn126]; exact (hm_un (hm_ne h4 hm1_ (fun q => by cases q))).trans h4
        have h131 : fn126 ((r 3)) = some (eI Γ 8 (fun i => nI (gs i).1)) := by rw [efn126]; exact (hm_un (hm_ne h5 hm1_ (fun q => by cases q))).trans h5
        have h132 : fn126 ((r 4)) = some (eI Γ 8 (fun i => (gs i).2.2.2.1)) := by rw [efn126]; exact (hm_un (hm_ne h6 hm1_ (fun q => by cases q))).trans h6
        have h133 : fn126 ((r 5)) = some (eI Γ 8 (fun i => (gs i).2.2.2.2.1)) := by rw [efn126]; exact (hm_un (hm_ne h7 hm1_ (fun q => by cases q))).trans h7
        have h134 : fn126 ((r 6)) = some (eI Γ 8 (fun i => (gs i).2.2.2.2.2.1)) := by rw [efn126]; exact (hm_un (hm_ne h8 hm1_ (fun q => by cases q))).trans h8
        have h135 : fn126 ((r 7)) = some (eI Γ 8 (fun i => (gs i).2.2.2.2.2.2.1)) := by rw [efn126]; exact (hm_un (hm_ne h9 hm1_ (fun q => by cases q))).trans h9
        have h136 : fn126 ((r 8)) = some (eI Γ 8 (fun i => (gs i).2.2.2.2.2.2.2.1)) := by rw [efn126]; exact (hm_un (hm_ne h10 hm1_ (fun q => by cases q))).trans h10
        have h137 : fn126 ((r 9)) = some (eZ Γ 8 (fun i => bI (gs i).2.2.2.2.2.2.2.2)) := by rw [efn126]; exact (hm_un (hm_ne h11 hm1_ (fun q => by cases q))).trans h11
        have h138 : fn126 ((r 10)) = some (eJ Γ 60 (fun i => b4 (ts i).2.1)) := by rw [efn126]; exact (hm_un (hm_ne h12 hm1_ (fun q => by cases q))).trans h12
        have h139 : fn126 ((r 11)) = some (eI Γ 60 (fun i => nI (ts i).2.2.1)) := by rw [efn126]; exact (hm_un (hm_ne h13 hm1_ (fun q => by cases q))).trans h13
        have h140 : fn126 ((r 12)) = some (eI Γ 60 (fun i => nI (ts i).1)) := by rw [efn126]; exact (hm_un (hm_ne h14 hm1_ (fun q => by cases q))).trans h14
        have h141 : fn126 ((r 13)) = some (eI Γ 60 (fun i => (ts i).2.2.2)) := by rw [efn126]; exact (hm_un (hm_ne h15 hm1_ (fun q => by cases q))).trans h15
        have h142 : fn126 ((r 14)) = some (eJ Γ 64 (fun j => (K j).1)) := by rw [efn126]; exact (hm_un (hm_ne h16 hm1_ (fun q => by cases q))).trans h16
        have h143 : fn126 ((r 15)) = some (eI Γ 64 (fun j => (K j).2.1)) := by rw [efn126]; exact (hm_un (hm_ne h17 hm1_ (fun q => by cases q))).trans h17
        have h144 : fn126 ((r 16)) = some (eI Γ 64 (fun j => (K j).2.2.1)) := by rw [efn126]; exact (hm_un (hm_ne h18 hm1_ (fun q => by cases q))).trans h18
        have h145 : fn126 ((r 17)) = some (eI Γ 64 (fun j => (K j).2.2.2.1)) := by rw [efn126]; exact (hm_un (hm_ne h19 hm1_ (fun q => by cases q))).trans h19
        have h146 : fn126 ((r 18)) = some (eI Γ 64 (fun j => (K j).2.2.2.2.1)) := by rw [efn126]; exact (hm_un (hm_ne h20 hm1_ (fun q => by cases q))).trans h20
        have h147 : fn126 ((r 19)) = some (eI Γ 64 (fun j => (K j).2.2.2.2.2.1)) := by rw [efn126]; exact (hm_un (hm_ne h21 hm1_ (fun q => by cases q))).trans h21
        have h148 : fn126 ((r 20)) = some (eI Γ 64 (fun j => (K j).2.2.2.2.2.2)) := by rw [efn126]; exact (hm_un (hm_ne h22 hm1_ (fun q => by cases q))).trans h22
        have h149 : fn126 ((r 21)) = some (eJ Γ 6 pb) := by rw [efn126]; exact (hm_un (hm_ne h23 hm1_ (fun q => by cases q))).trans h23
        have h150 : fn126 ((r 22)) = some (eI Γ 6 pz) := by rw [efn126]; exact (hm_un (hm_ne h24 hm1_ (fun q => by cases q))).trans h24
        have h151 : fn126 ((r 23)) = some (eI Γ 6 pd) := by rw [efn126]; exact (hm_un (hm_ne h25 hm1_ (fun q => by cases q))).trans h25
        have h152 : fn126 ((r 24)) = some (eI Γ 6 pn) := by rw [efn126]; exact (hm_un (hm_ne h26 hm1_ (fun q => by cases q))).trans h26
        have h153 : fn126 ((r 25)) = some (eI Γ 6 pe) := by rw [efn126]; exact (hm_un (hm_ne h27 hm1_ (fun q => by cases q))).trans h27
        have h154 : fn126 ((r 26)) = some (eI Γ 6 ph) := by rw [efn126]; exact (hm_un (hm_ne h28 hm1_ (fun q => by cases q))).trans h28
        have h155 : fn126 ((r 27)) = some (eI Γ 6 pg) := by rw [efn126]; exact (hm_un (hm_ne h29 hm1_ (fun q => by cases q))).trans h29
        refine lv_if_eq (tgt := 34) hx hb dX8_worth_27 (by decide) (fun _ => ?_) (fun c156 => absurd (by decide) c156)
        obtain ⟨d, -, hd4, rfl⟩ := dep_in (v := v1) (a := 0) c59 (by decide) (Int32.not_lt.mp c92)
        have hid : ix (nI d) = d := ix_nI (by omega)
        refine lv_aload_n hx hb dX8_worth_34 rfl (lv_at hl 0 rfl) ?_
        refine lv_aload_n hx hb dX8_worth_35 rfl (lv_at hl 0 rfl) ?_
        refine gf_X8_13 hx hb hts hown hK hH hm127 rfl dX8_worth_36 ?_
        refine lv_iload_n hx hb dX8_worth_39 rfl (lv_at hl 1 rfl) ?_
        refine hm_lald hx hb hK hH h129 (vp_in_nI hi8 (by decide)) dX8_worth_40 ?_
        refine lv_topl (fun v157 ev157 => ?_)
        replace ev157 : v157 = b4 (gs i).2.1 := ev157.trans (by show b4 (gs (nI i).toNatClampNeg).2.1 = _; rw [nI_clamp (n := i) (by omega)])
        subst ev157
        refine lv_aload_n hx hb dX8_worth_41 rfl (lv_at hl 0 rfl) ?_
        refine gf_X8_17 hx hb hts hown hK hH hm127 rfl dX8_worth_42 ?_
        refine lv_iload_n hx hb dX8_worth_45 rfl (lv_at hl 1 rfl) ?_
        refine hm_iald hx hb hK hH h130 (vp_in_nI hi8 (by decide)) dX8_worth_46 ?_
        refine lv_topi (fun v158 ev158 => ?_)
        replace ev158 : v158 = nI (gs i).2.2.1 := ev158.trans (by show nI (gs (nI i).toNatClampNeg).2.2.1 = _; rw [nI_clamp (n := i) (by omega)])
        subst ev158
        refine lv_iload_n hx hb dX8_worth_47 rfl (lv_at hl 2 rfl) ?_
        refine lv_iconst (v := 0) hx hb dX8_worth_48 (by decide) ?_
        have hfrw : hm_fr (mS m0 r) f fn126 := by
          rw [efn126, efn1]
          exact ((hm_fr.rf (S := mS m0 r)).up mS_0).up mS_0
        refine hm_callV (rest := []) (k := 4) q5_213 q5_215 q1_9 q5_216 q0_26 rfl nm_X8_worthOf rfl hx hb hml hown hts hK hO hS hH hl.1 hm127 (c_X8_worthOf Γ l m0 r 0 (nI np) (nI ng) (nI nt) lim msh msm mso sp rf rr false (K, kp, ck, hih, mih) dz gd fh pb pz pd pn pe ph pg (gs i).2.1 (gs i).2.2.1 d fn126 ⟨hm127, ⟨h142, h143, h144, h145, h146, h147, h148⟩, ⟨h149, h150, h151, h152, h153, h154, h155⟩⟩ hrI hrr hr1 ⟨hkr, hmk⟩ hd4 (by omega) hgz) ⟨Nat.le_of_ble_eq_true rfl, Nat.le_of_ble_eq_true rfl⟩ ⟨Nat.le_of_ble_eq_true rfl, Nat.le_of_ble_eq_true rfl⟩ rfl (Nat.le_of_ble_eq_true rfl) dX8_worth_49 (fun v_ f2_ H locs hp_ hH hS => ?_)
        obtain ⟨rfl, ⟨dz2, gd2, pb2, pz2, pd2, pn2, pe2, ph2, pg2, hHd2⟩, hfr2⟩ := hp_
        refine W.eq (g2 := F0 m 52 ls [.int (nI (wp d (gs i).2.1 (gs i).2.2.1).1)]) rfl ?_
        obtain ⟨hm2, ⟨hx0, hx1, hx2, hx3, hx4, hx5, hx6⟩, ⟨hy0, hy1, hy2, hy3, hy4, hy5, hy6⟩⟩ := id hHd2
        have hfrw2 := hfrw.tr (hfr2.mono (fun q hq => mS_w hq))
        have h159 : f2_ (r 0) = some (eI Γ 4 mon) := (hfr2 _ (wS_low hm127 h128 hrI (by decide))).trans h128
        have h160 : f2_ (r 1) = some (eJ Γ 8 (fun i => b4 (gs i).2.1)) := (hfr2 _ (wS_low hm127 h129 hrI (by decide))).trans h129
        have h161 : f2_ (r 2) = some (eI Γ 8 (fun i => nI (gs i).2.2.1)) := (hfr2 _ (wS_low hm127 h130 hrI (by decide))).trans h130
        have h162 : f2_ (r 3) = some (eI Γ 8 (fun i => nI (gs i).1)) := (hfr2 _ (wS_low hm127 h131 hrI (by decide))).trans h131
        have h163 : f2_ (r 4) = some (eI Γ 8 (fun i => (gs i).2.2.2.1)) := (hfr2 _ (wS_low hm127 h132 hrI (by decide))).trans h132
        have h164 : f2_ (r 5) = some (eI Γ 8 (fun i => (gs i).2.2.2.2.1)) := (hfr2 _ (wS_low hm127 h133 hrI (by decide))).trans h133
        have h165 : f2_ (r 6) = some (eI Γ 8 (fun i => (gs i).2.2.2.2.2.1)) := (hfr2 _ (wS_low hm127 h134 hrI (by decide))).trans h134
        have h166 : f2_ (r 7) = some (eI Γ 8 (fun i => (gs i).2.2.2.2.2.2.1)) := (hfr2 _ (wS_low hm127 h135 hrI (by decide))).trans h135
        have h167 : f2_ (r 8) = some (eI Γ 8 (fun i => (gs i).2.2.2.2.2.2.2.1)) := (hfr2 _ (wS_low hm127 h136 hrI (by decide))).trans h136
        have h168 : f2_ (r 9) = some (eZ Γ 8 (fun i => bI (gs i).2.2.2.2.2.2.2.2)) := (hfr2 _ (wS_low hm127 h137 hrI (by decide))).trans h137
        have h169 : f2_ (r 10) = some (eJ Γ 60 (fun i => b4 (ts i).2.1)) := (hfr2 _ (wS_low hm127 h138 hrI (by decide))).trans h138
        have h170 : f2_ (r 11) = some (eI Γ 60 (fun i => nI (ts i).2.2.1)) := (hfr2 _ (wS_low hm127 h139 hrI (by decide))).trans h139
        have h171 : f2_ (r 12) = some (eI Γ 60 (fun i => nI (ts i).1)) := (hfr2 _ (wS_low hm127 h140 hrI (by decide))).trans h140
        have h172 : f2_ (r 13) = some (eI Γ 60 (fun i => (ts i).2.2.2)) := (hfr2 _ (wS_low hm127 h141 hrI (by decide))).trans h141
        have hfr9 := hfrw2
        exact hm_iret hx hb hr hlocks hS hH (⟨Or.inl ⟨by rw [hb1]; (try rw [hix]); rw [hb125]; rfl, by rw [hix, hid], (by have z_ := trM_false (rr := rr) (d := d) (t := (gs i).2.1) (z := (gs i).2.2.1) (M := (K, kp, ck, hih, mih)) ⟨rfl, rfl, rfl⟩; have hm3 := hm2; rw [z_.2.1, z_.2.2] at hm3; have hk3 := hHd2.2.1; rw [z_.1] at hk3; exact MW.mk hm3 ⟨hk3, ⟨_, _, _, _, _, _, _, hHd2.2.2⟩, h159, ⟨h160, h161, h162, h163, h164, h165, h166, h167, h168⟩, h169, h170, h171, h172⟩)⟩, hfr9.k⟩) (Nat.le_of_ble_eq_true rfl) (Nat.le_of_ble_eq_true rfl) dX8_worth_52
  · rw [hb1] at efn1
    refine W.eq (g2 := F0 m 5 ls [.int 1]) (by rw [hb1]; rfl) ?_
    have hm1_ : fn1 m0 = some (eM r 1 (nI np) (nI ng) (nI nt) (nI kp) (nI rr) ck lim dz gd hih mih fh msh msm mso sp rf) := by rw [efn1]; exact hm_us
    have h30 : fn1 ((r 0)) = some (eI Γ 4 mon) := by rw [efn1]; exact (hm_un (hm_ne h0 hm0 (fun q => by cases q))).trans h0
    have h31 : fn1 ((r 1)) = some (eJ Γ 8 (fun i => b4 (gs i).2.1)) := by rw [efn1]; exact (hm_un (hm_ne hg1 hm0 (fun q => by cases q))).trans hg1
    have h32 : fn1 ((r 2)) = some (eI Γ 8 (fun i => nI (gs i).2.2.1)) := by rw [efn1]; exact (hm_un (hm_ne hg2 hm0 (fun q => by cases q))).trans hg2
    have h33 : fn1 ((r 3)) = some (eI Γ 8 (fun i => nI (gs i).1)) := by rw [efn1]; exact (hm_un (hm_ne hg3 hm0 (fun q => by cases q))).trans hg3
    have h34 : fn1 ((r 4)) = some (eI Γ 8 (fun i => (gs i).2.2.2.1)) := by rw [efn1]; exact (hm_un (hm_ne hg4 hm0 (fun q => by cases q))).trans hg4
    have h35 : fn1 ((r 5)) = some (eI Γ 8 (fun i => (gs i).2.2.2.2.1)) := by rw [efn1]; exact (hm_un (hm_ne hg5 hm0 (fun q => by cases q))).trans hg5
    have h36 : fn1 ((r 6)) = some (eI Γ 8 (fun i => (gs i).2.2.2.2.2.1)) := by rw [efn1]; exact (hm_un (hm_ne hg6 hm0 (fun q => by cases q))).trans hg6
    have h37 : fn1 ((r 7)) = some (eI Γ 8 (fun i => (gs i).2.2.2.2.2.2.1)) := by rw [efn1]; exact (hm_un (hm_ne hg7 hm0 (fun q => by cases q))).trans hg7
    have h38 : fn1 ((r 8)) = some (eI Γ 8 (fun i => (gs i).2.2.2.2.2.2.2.1)) := by rw [efn1]; exact (hm_un (hm_ne hg8 hm0 (fun q => by cases q))).trans hg8
    have h39 : fn1 ((r 9)) = some (eZ Γ 8 (fun i => bI (gs i).2.2.2.2.2.2.2.2)) := by rw [efn1]; exact (hm_un (hm_ne hg9 hm0 (fun q => by cases q))).trans hg9
    have h40 : fn1 ((r 10)) = some (eJ Γ 60 (fun i => b4 (ts i).2.1)) := by rw [efn1]; exact (hm_un (hm_ne ht10 hm0 (fun q => by cases q))).trans ht10
    have h41 : fn1 ((r 11)) = some (eI Γ 60 (fun i => nI (ts i).2.2.1)) := by rw [efn1]; exact (hm_un (hm_ne ht11 hm0 (fun q => by cases q))).trans ht11
    have h42 : fn1 ((r 12)) = some (eI Γ 60 (fun i => nI (ts i).1)) := by rw [efn1]; exact (hm_un (hm_ne ht12 hm0 (fun q => by cases q))).trans ht12
    have h43 : fn1 ((r 13)) = some (eI Γ 60 (fun i => (ts i).2.2.2)) := by rw [efn1]; exact (hm_un (hm_ne ht13 hm0 (fun q => by cases q))).trans ht13
    have h44 : fn1 ((r 14)) = some (eJ Γ 64 (fun j => (K j).1)) := by rw [efn1]; exact (hm_un (hm_ne hk0 hm0 (fun q => by cases q))).trans hk0
    have h45 : fn1 ((r 15)) = some (eI Γ 64 (fun j => (K j).2.1)) := by rw [efn1]; exact (hm_un (hm_ne hk1 hm0 (fun q => by cases q))).trans hk1
    have h46 : fn1 ((r 16)) = some (eI Γ 64 (fun j => (K j).2.2.1)) := by rw [efn1]; exact (hm_un (hm_ne hk2 hm0 (fun q => by cases q))).trans hk2
    have h47 : fn1 ((r 17)) = some (eI Γ 64 (fun j => (K j).2.2.2.1)) := by rw [efn1]; exact (hm_un (hm_ne hk3 hm0 (fun q => by cases q))).trans hk3
    have h48 : fn1 ((r 18)) = some (eI Γ 64 (fun j => (K j).2.2.2.2.1)) := by rw [efn1]; exact (hm_un (hm_ne hk4 hm0 (fun q => by cases q))).trans hk4
    have h49 : fn1 ((r 19)) = some (eI Γ 64 (fun j => (K j).2.2.2.2.2.1)) := by rw [efn1]; exact (hm_un (hm_ne hk5 hm0 (fun q => by cases q))).trans hk5
    have h50 : fn1 ((r 20)) = some (eI Γ 64 (fun j => (K j).2.2.2.2.2.2)) := by rw [efn1]; exact (hm_un (hm_ne hk6 hm0 (fun q => by cases q))).trans hk6
    have h51 : fn1 ((r 21)) = some (eJ Γ 6 pb) := by rw [efn1]; exact (hm_un (hm_ne hp0 hm0 (fun q => by cases q))).trans hp0
    have h52 : fn1 ((r 22)) = some (eI Γ 6 pz) := by rw [efn1]; exact (hm_un (hm_ne hp1 hm0 (fun q => by cases q))).trans hp1
    have h53 : fn1 ((r 23)) = some (eI Γ 6 pd) := by rw [efn1]; exact (hm_un (hm_ne hp2 hm0 (fun q => by cases q))).trans hp2
    have h54 : fn1 ((r 24)) = some (eI Γ 6 pn) := by rw [efn1]; exact (hm_un (hm_ne hp3 hm0 (fun q => by cases q))).trans hp3
    have h55 : fn1 ((r 25)) = some (eI Γ 6 pe) := by rw [efn1]; exact (hm_un (hm_ne hp4 hm0 (fun q => by cases q))).trans hp4
    have h56 : fn1 ((r 26)) = some (eI Γ 6 ph) := by rw [efn1]; exact (hm_un (hm_ne hp5 hm0 (fun q => by cases q))).trans hp5
    have h57 : fn1 ((r 27)) = some (eI Γ 6 pg) := by rw [efn1]; exact (hm_un (hm_ne hp6 hm0 (fun q => by cases q))).trans hp6
    refine lv_if_ne (tgt := 30) hx hb dX8_worth_5 (by decide) (fun _ => ?_) (fun c173 => absurd c173 (by decide))
    refine lv_iconst (v := 0) hx hb dX8_worth_30 (by decide) ?_
    refine lv_goto (tgt := 52) hx hb dX8_worth_31 (by decide) ?_
    have hfr9 : hm_fr (mS m0 r) f fn1 := by
      rw [efn1]
      exact (hm_fr.rf (S := mS m0 r)).up mS_0
    exact hm_iret hx hb hr hlocks hS hH (⟨Or.inr ⟨by rw [hb1]; exact (show (1 : Int32) ≠ 0 by decide), ⟨_, rfl⟩, by rw [hb1]; exact MW.mk hm1_ ⟨⟨h44, h45, h46, h47, h48, h49, h50⟩, ⟨_, _, _, _, _, _, _, h51, h52, h53, h54, h55, h56, h57⟩, h30, ⟨h31, h32, h33, h34, h35, h36, h37, h38, h39⟩, h40, h41, h42, h43⟩⟩, hfr9.k⟩) (Nat.le_of_ble_eq_true rfl) (Nat.le_of_ble_eq_true rfl) dX8_worth_52
