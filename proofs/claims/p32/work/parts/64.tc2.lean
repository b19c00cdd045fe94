/-! TileWarden: setLimit, addPlayer, open, push -/
/-- all kinds but these -/
def kX (l : List Nat) : Nat → Bool := fun k => !(l.contains k)
theorem LI.kps {ks : Nat → Bool} {Γ : Gm} {f f' : Hm} {a ar cap n : Nat} {L : Nat → Nat} (h : LI Γ f a ar cap n L) (h34 : gC Γ 3 ≠ gC Γ 4) (h0 : ks 0 = true) (h100 : ks 100 = true) (hf : hm_kd ks Γ f f') : LI Γ f' a ar cap n L := by
  obtain ⟨⟨mo, g1⟩, ⟨g, g2, g3⟩, g4⟩ := h
  exact ⟨⟨mo, hf _ _ g1 h0⟩, ⟨g, hf _ _ g2 (by rw [kd_O h34]; exact h100), g3⟩, g4⟩
theorem kX_M {l : List Nat} {Γ : Gm} {f f' : Hm} (h : hm_kd (kX l) Γ f f') (h8 : kX l 8 = true) (h200 : kX l 200 = true) : hm_kd kM Γ f f' := h.mono (fun k hk => by
  unfold kM at hk
  simp only [Bool.or_eq_true, decide_eq_true_eq] at hk
  rcases hk with rfl | rfl
  · exact h8
  · exact h200)
theorem kX_D {l : List Nat} {Γ : Gm} {f f' : Hm} (h : hm_kd (kX l) Γ f f') (h1 : kX l 1 = true) (h2 : kX l 2 = true) (h5 : kX l 5 = true) (h101 : kX l 101 = true) : hm_kd kD Γ f f' := h.mono (fun k hk => by
  unfold kD at hk
  simp only [Bool.or_eq_true, decide_eq_true_eq] at hk
  rcases hk with ((rfl | rfl) | rfl) | rfl
  · exact h1
  · exact h2
  · exact h5
  · exact h101)
theorem kX_L {l : List Nat} {Γ : Gm} {f f' : Hm} (h : hm_kd (kX l) Γ f f') (h0 : kX l 0 = true) (h3 : kX l 3 = true) (h4 : kX l 4 = true) (h6 : kX l 6 = true) (h7 : kX l 7 = true) (h100 : kX l 100 = true) : hm_kd kL Γ f f' := h.mono (fun k hk => by
  unfold kL at hk
  simp only [Bool.or_eq_true, decide_eq_true_eq] at hk
  rcases hk with ((((rfl | rfl) | rfl) | rfl) | rfl) | rfl
  · exact h0
  · exact h3
  · exact h4
  · exact h6
  · exact h7
  · exact h100)
theorem hm_kd.ofk {l : List Nat} {Γ : Gm} {S : Nat → Prop} {f f' : Hm} (h : hm_k S f f') (hS : ∀ q e, S q → f q = some e → kX l (kd Γ e) = false) : hm_kd (kX l) Γ f f' := .of h hS
set_option maxHeartbeats 4000000 in
set_option maxRecDepth 100000 in
theorem t_X7_setLimit (Γ : Gm) (l : Launch) (x0 : Nat) (mf : Nat → Int32) (E : Nat → EV) (cn us : Int32) (so sh sm : Int64) (np : Nat) (mon : Nat → Int32) (ng : Nat) (gs : Nat → GS) (nt : Nat) (ts : Nat → TR) (lim : Int32) (rf sp : Int64) (rr : Nat) (v0 : Int32) (f : Hm) (hst : l.stackTraces = false) (hC : CW Γ f x0 mf E cn us so sh sm np mon ng gs nt ts lim rf sp rr) (hnp : np ≤ 4) (hng : ng ≤ 8) (hnt : nt ≤ 60) (hr1 : 1 ≤ rr) (hrr : rr ≤ 64) (hgs : GOK np ng gs) : Cx Γ l yX7_setLimit cX7_setLimit 3 (some .int) 2 1 6 [.ref x0, .int v0] f (cP (if inR v0 1 9 then 0 else 1) (lim) Γ f (fun f' => CW Γ f' x0 mf E cn us so sh sm np mon ng gs nt ts v0 rf sp rr)) (cY [("java/lang/IllegalArgumentException", 1)] (if inR v0 1 9 then 0 else 1) Γ f (fun f' => CW Γ f' x0 mf E cn us so sh sm np mon ng gs nt ts lim rf sp rr)) := by
  refine Cx_of (by decide +kernel) (Nat.le_of_ble_eq_true rfl) ?_
  intro p e s m args below meth c hx hb hr hml hown hin hlocks hout hts hH hO hK ls hl
  have hl0 := hl
  have hl : lv_has ls 3 [(0, .ref x0), (1, .int v0)] := hl
  have hS : va_S (gA Γ) s.heap s.heap [] := va_S.rf
  obtain ⟨lp, lg, lt, ca, tr, pl, hCL, hCD⟩ := id hC
  obtain ⟨hx0, aP, cp_, P, aG, cg_, G, aT, ct_, T, ⟨hLP, hcP, hP, hPj⟩, ⟨hLG, hcG, hG, hGj⟩, ⟨hLT, hcT, hT⟩, ⟨hpg, hpt, hgt⟩, hPG, hPT, hGT⟩ := id hCL
  obtain ⟨⟨moP, hlP⟩, -⟩ := id hLP
  obtain ⟨⟨moG, hlG⟩, -⟩ := id hLG
  obtain ⟨⟨moT, hlT⟩, -⟩ := id hLT
  have h34 := hm_c34 hK
  refine lv_iload_n hx hb dX7_setLimit_0 rfl (lv_at hl 1 rfl) ?_
  refine lv_iconst (v := 1) hx hb dX7_setLimit_1 (by decide) ?_
  refine lv_icmp_lt (tgt := 11) hx hb dX7_setLimit_2 (by decide) (fun c1 => ?_) (fun c1 => ?_)
  · exact hm_thr hx hb hst hml hl.1 hown q2_8 q1_12 (text := "the limit is out of range") (by decide) xA_IA (by decide +kernel) hts hK hO hS hH dX7_setLimit_11 dX7_setLimit_14 dX7_setLimit_15 dX7_setLimit_17 dX7_setLimit_20 hout hlocks (by have hb0 : inR v0 1 9 = false := (by unfold inR; rw [decide_eq_false (Int32.not_le.mpr c1)]; rfl); exact ⟨by rw [hb0]; exact (show (1 : Int32) ≠ 0 by decide), by rw [hb0]; exact (Or.inl ⟨rfl, rfl⟩), hC, hm_kd.rf⟩) (Nat.le_of_ble_eq_true rfl) (Nat.le_of_ble_eq_true rfl) (Nat.le_of_ble_eq_true rfl) (Nat.le_of_ble_eq_true rfl) (Nat.le_of_ble_eq_true rfl) (Nat.le_of_ble_eq_true rfl)
  · refine lv_iload_n hx hb dX7_setLimit_5 rfl (lv_at hl 1 rfl) ?_
    refine lv_bipush (v := 9) hx hb dX7_setLimit_6 (by decide) ?_
    refine lv_icmp_le (tgt := 21) hx hb dX7_setLimit_8 (by decide) (fun c2 => ?_) (fun c2 => ?_)
    · have hb1 : inR v0 1 9 = true := by unfold inR; rw [decide_eq_true (Int32.not_lt.mp c1), decide_eq_true c2]; rfl
      refine lv_aload_n hx hb dX7_setLimit_21 rfl (lv_at hl 0 rfl) ?_
      refine gf_X7_43 hx hb hts hown hK hH hx0 rfl dX7_setLimit_22 ?_
      refine lv_istore_n (lv' := [(2, .int lim), (0, .ref x0), (1, .int v0)]) hx hb dX7_setLimit_25 rfl hl (by decide) rfl (fun ls hl => ?_)
      refine lv_aload_n hx hb dX7_setLimit_26 rfl (lv_at hl 1 rfl) ?_
      refine lv_iload_n hx hb dX7_setLimit_27 rfl (lv_at hl 2 rfl) ?_
      refine pf_X7_43 hx hb hts hown hK hO hS hH hx0 rfl (Nat.le_of_ble_eq_true rfl) rfl dX7_setLimit_28 (fun H locs hH hS => ?_)
      obtain ⟨f3, ef3⟩ : ∃ zz_, zz_ = hm_up f x0 (eR 7 [.ref lp, .ref lg, .ref lt, .ref ca, .ref tr, .ref pl, .int v0, .long rf, .long so, .long sp, .long sh, .long sm]) := ⟨_, rfl⟩
      have hH : hm_H Γ f3 H := by rw [ef3]; exact hH
      have h4 : f3 x0 = some (eR 7 [.ref lp, .ref lg, .ref lt, .ref ca, .ref tr, .ref pl, .int v0, .long rf, .long so, .long sp, .long sh, .long sm]) := by rw [ef3]; exact hm_us
      have h5 : f3 lp = some (eR 0 [.int moP, .ref aP, .int (nI np)]) := by rw [ef3]; exact (hm_un (hm_ne hlP hx0 (fun q => by injection q with q; injection q with q; cases q))).trans hlP
      have h6 : f3 lg = some (eR 0 [.int moG, .ref aG, .int (nI ng)]) := by rw [ef3]; exact (hm_un (hm_ne hlG hx0 (fun q => by injection q with q; injection q with q; cases q))).trans hlG
      have h7 : f3 lt = some (eR 0 [.int moT, .ref aT, .int (nI nt)]) := by rw [ef3]; exact (hm_un (hm_ne hlT hx0 (fun q => by injection q with q; injection q with q; cases q))).trans hlT
      have kd8 : hm_kd (kX [7]) Γ f f3 := (by rw [ef3]; exact hm_kd.up hx0 rfl)
      refine lv_iload_n hx hb dX7_setLimit_31 rfl (lv_at hl 0 rfl) ?_
      subst ef3
      exact vx_ret (hm_iret hx hb hr hlocks hS hH (⟨by rw [hb1]; rfl, rfl, ⟨lp, lg, lt, ca, tr, pl, ⟨h4, aP, cp_, P, aG, cg_, G, aT, ct_, T, ⟨hLP.kps h34 rfl rfl kd8, hcP, fun i hi => kd8 _ _ (hP i hi) rfl, hPj⟩, ⟨hLG.kps h34 rfl rfl kd8, hcG, fun i hi => kd8 _ _ (hG i hi) rfl, hGj⟩, ⟨hLT.kps h34 rfl rfl kd8, hcT, fun i hi => kd8 _ _ (hT i hi) rfl⟩, ⟨hpg, hpt, hgt⟩, hPG, hPT, hGT⟩, hCD.kpt (kX_D kd8 rfl rfl rfl rfl)⟩, kX_M kd8 rfl rfl⟩) (Nat.le_of_ble_eq_true rfl) (Nat.le_of_ble_eq_true rfl) dX7_setLimit_32)
    · exact hm_thr hx hb hst hml hl.1 hown q2_8 q1_12 (text := "the limit is out of range") (by decide) xA_IA (by decide +kernel) hts hK hO hS hH dX7_setLimit_11 dX7_setLimit_14 dX7_setLimit_15 dX7_setLimit_17 dX7_setLimit_20 hout hlocks (by have hb0 : inR v0 1 9 = false := (by unfold inR; rw [decide_eq_false (p := v0 ≤ 9) c2, Bool.and_false]); exact ⟨by rw [hb0]; exact (show (1 : Int32) ≠ 0 by decide), by rw [hb0]; exact (Or.inl ⟨rfl, rfl⟩), hC, hm_kd.rf⟩) (Nat.le_of_ble_eq_true rfl) (Nat.le_of_ble_eq_true rfl) (Nat.le_of_ble_eq_true rfl) (Nat.le_of_ble_eq_true rfl) (Nat.le_of_ble_eq_true rfl) (Nat.le_of_ble_eq_true rfl)
set_option maxHeartbeats 4000000 in
set_option maxRecDepth 100000 in
theorem t_X7_push (Γ : Gm) (l : Launch) (x0 : Nat) (mf : Nat → Int32) (E : Nat → EV) (cn us : Int32) (so sh sm : Int64) (np : Nat) (mon : Nat → Int32) (ng : Nat) (gs : Nat → GS) (nt : Nat) (ts : Nat → TR) (lim : Int32) (rf sp : Int64) (rr : Nat) (v0 v1 : Int32) (f : Hm) (hst : l.stackTraces = false) (hC : CW Γ f x0 mf E cn us so sh sm np mon ng gs nt ts lim rf sp rr) (hnp : np ≤ 4) (hng : ng ≤ 8) (hnt : nt ≤ 60) (hr1 : 1 ≤ rr) (hrr : rr ≤ 64) (hgs : GOK np ng gs) : Cx Γ l yX7_push cX7_push 4 (some .int) 8 3 18 [.ref x0, .int v0, .int v1] f (cP (if inB v0 (nI ng) then (if inB v1 4 then (if (!(gs (ix v0)).2.2.2.2.2.2.2.2 && goN (gs (ix v0)).2.1 (ix v1)) then 0 else 3) else 2) else 1) (nI (gainT (gs (ix v0)).2.1 (ix v1))) Γ f (fun f' => CW Γ f' x0 mf E cn us so sh sm np mon ng ((setG gs (ix v0) ((gs (ix v0)).1, drawT (pushT (gs (ix v0)).2.1 (ix v1)) (gs (ix v0)).2.2.1, nxt (nxt (gs (ix v0)).2.2.1), (gs (ix v0)).2.2.2.1 + nI (gainT (gs (ix v0)).2.1 (ix v1)), (gs (ix v0)).2.2.2.2.1 + 1, (if (folB (fun i => tx5 (ts i)) (b5 (gs (ix v0)).2.1) (nI (gs (ix v0)).2.2.1) (nI (gs (ix v0)).1) v1 nt) then (gs (ix v0)).2.2.2.2.2.1 + 1 else 0), mxI (gs (ix v0)).2.2.2.2.2.2.1 (if (folB (fun i => tx5 (ts i)) (b5 (gs (ix v0)).2.1) (nI (gs (ix v0)).2.2.1) (nI (gs (ix v0)).1) v1 nt) then (gs (ix v0)).2.2.2.2.2.1 + 1 else 0), (gs (ix v0)).2.2.2.2.2.2.2.1, (gs (ix v0)).2.2.2.2.2.2.2.2))) nt ts lim rf sp rr)) (cY [("java/lang/IndexOutOfBoundsException", 1), ("java/lang/IllegalArgumentException", 2), ("java/lang/UnsupportedOperationException", 3)] (if inB v0 (nI ng) then (if inB v1 4 then (if (!(gs (ix v0)).2.2.2.2.2.2.2.2 && goN (gs (ix v0)).2.1 (ix v1)) then 0 else 3) else 2) else 1) Γ f (fun f' => CW Γ f' x0 mf E cn us so sh sm np mon ng gs nt ts lim rf sp rr)) := by
  refine Cx_of (by decide +kernel) (Nat.le_of_ble_eq_true rfl) ?_
  intro p e s m args below meth c hx hb hr hml hown hin hlocks hout hts hH hO hK ls hl
  have hl0 := hl
  have hl : lv_has ls 4 [(0, .ref x0), (1, .int v0), (2, .int v1)] := hl
  have hS : va_S (gA Γ) s.heap s.heap [] := va_S.rf
  obtain ⟨lp, lg, lt, ca, tr, pl, hCL, hCD⟩ := id hC
  obtain ⟨hx0, aP, cp_, P, aG, cg_, G, aT, ct_, T, ⟨hLP, hcP, hP, hPj⟩, ⟨hLG, hcG, hG, hGj⟩, ⟨hLT, hcT, hT⟩, ⟨hpg, hpt, hgt⟩, hPG, hPT, hGT⟩ := id hCL
  obtain ⟨⟨moP, hlP⟩, -⟩ := id hLP
  obtain ⟨⟨moG, hlG⟩, -⟩ := id hLG
  obtain ⟨⟨moT, hlT⟩, -⟩ := id hLT
  have h34 := hm_c34 hK
  refine lv_aload_n hx hb dX7_push_0 rfl (lv_at hl 0 rfl) ?_
  refine lv_iload_n hx hb dX7_push_1 rfl (lv_at hl 1 rfl) ?_
  refine hm_xV (rest := []) (k := 4) q3_80 q3_82 q1_1 q3_83 q0_5 rfl nm_X7_findGame rfl hx hb hml hown hts hK hO hS hH hl.1 hx0 hout hlocks (c_findGame Γ l x0 lp lg lt ca tr pl lim rf so sp sh sm aG cg_ ng G v0 f hst hx0 hLG (by omega) (by omega) (fun i hi => ⟨_, hG i hi⟩)) (fun E f' h_ => by obtain ⟨rfl, hno, rfl⟩ := h_; have hb0 := inB_no (by omega) hno; exact ⟨by rw [hb0]; exact (show (1 : Int32) ≠ 0 by decide), by rw [hb0]; exact (Or.inl ⟨rfl, rfl⟩), hC, hm_kd.rf⟩) ⟨Nat.le_of_ble_eq_true rfl, Nat.le_of_ble_eq_true rfl⟩ ⟨Nat.le_of_ble_eq_true rfl, Nat.le_of_ble_eq_true rfl⟩ ⟨Nat.le_of_ble_eq_true rfl, Nat.le_of_ble_eq_true rfl⟩ rfl (Nat.le_of_ble_eq_true rfl) dX7_push_2 (fun v_ f_ H locs hp_ hH hS => ?_)
  obtain ⟨i, hi, rfl, rfl, ef_⟩ := hp_
  rw [ef_] at hH
  clear ef_
  refine W.eq (g2 := F0 m 5 ls [.ref ((G i))]) rfl ?_
  have hb1 := inB_yes (n := ng) (by omega) hi
  have hix : ix (nI i) = i := ix_nI (by omega)
  have hGi := hG i hi
  obtain ⟨hgo, hgw, hgz⟩ := hgs i hi
  have hi8 : i < 8 := by omega
  have ht31 : tl 31 (gs i).2.1 := tl31 (by omega)
  refine lv_astore_n (lv' := [(3, .ref ((G i))), (0, .ref x0), (1, .int (nI i)), (2, .int v1)]) hx hb dX7_push_5 rfl hl (by decide) rfl (fun ls hl => ?_)
  refine lv_iload_n hx hb dX7_push_6 rfl (lv_at hl 3 rfl) ?_
  refine hm_xS (rest := []) (k := 2) q3_85 q3_86 q1_1 q3_87 nm_X7_checkWay rfl hx hb hml hown hts hK hO hS hH hl.1 hout hlocks (c_checkWay Γ l v1 f hst) (fun E f' h_ => by obtain ⟨rfl, hno, rfl⟩ := h_; have hb0 : inB v1 4 = false := inB_no (n := 4) (by decide) hno; exact ⟨by rw [hb1]; (try rw [hix]); rw [hb0]; exact (show (2 : Int32) ≠ 0 by decide), by rw [hb1]; (try rw [hix]); rw [hb0]; exact (Or.inr (Or.inl ⟨rfl, rfl⟩)), hC, hm_kd.rf⟩) ⟨Nat.le_of_ble_eq_true rfl, Nat.le_of_ble_eq_true rfl⟩ ⟨Nat.le_of_ble_eq_true rfl, Nat.le_of_ble_eq_true rfl⟩ ⟨Nat.le_of_ble_eq_true rfl, Nat.le_of_ble_eq_true rfl⟩ rfl (Nat.le_of_ble_eq_true rfl) dX7_push_7 (fun v_ f_ H locs hp_ hH hS => ?_)
  obtain ⟨rfl, ⟨to, hto, rfl⟩, ef_⟩ := hp_
  rw [ef_] at hH
  clear ef_
  refine W.eq (g2 := F0 m 10 ls []) rfl ?_
  have hb2 : inB (nI to) 4 = true := inB_yes (n := 4) (by decide) hto
  have hit : ix (nI to) = to := ix_nI (by omega)
  refine lv_aload_n hx hb dX7_push_10 rfl (lv_at hl 0 rfl) ?_
  refine gf_X7_108 hx hb hts hown hK hH hGi rfl dX7_push_11 ?_
  refine lv_if_ne (tgt := 28) hx hb dX7_push_14 (by decide) (fun c1 => ?_) (fun c1 => ?_)
  · exact hm_thr hx hb hst hml hl.1 hown q3_110 q1_25 (text := "the game is void or the push changes nothing") (by decide) xA_UO (by decide +kernel) hts hK hO hS hH dX7_push_28 dX7_push_31 dX7_push_32 dX7_push_34 dX7_push_37 hout hlocks (by have hb0 : (!(gs i).2.2.2.2.2.2.2.2 && goN (gs i).2.1 to) = false := (by rw [bI_n.mp c1]; rfl); exact ⟨by rw [hb1]; (try rw [hix]); rw [hb2]; (try rw [hit]); rw [hb0]; exact (show (3 : Int32) ≠ 0 by decide), by rw [hb1]; (try rw [hix]); rw [hb2]; (try rw [hit]); rw [hb0]; exact (Or.inr (Or.inr (Or.inl ⟨rfl, rfl⟩))), hC, hm_kd.rf⟩) (Nat.le_of_ble_eq_true rfl) (Nat.le_of_ble_eq_true rfl) (Nat.le_of_ble_eq_true rfl) (Nat.le_of_ble_eq_true rfl) (Nat.le_of_ble_eq_true rfl) (Nat.le_of_ble_eq_true rfl)
  · refine lv_aload_n hx hb dX7_push_17 rfl (lv_at hl 0 rfl) ?_
    refine gf_X7_112 hx hb hts hown hK hH hGi rfl dX7_push_18 ?_
    refine lv_iload_n hx hb dX7_push_21 rfl (lv_at hl 3 rfl) ?_
    refine hm_callS (rest := []) (k := 5) q3_89 q3_90 q1_24 q3_91 nm_X0_canGo rfl hx hb hml hown hts hK hO hS hH hl.1 (c_X0_canGo Γ l (gs i).2.1 to f ht31 hto) ⟨Nat.le_of_ble_eq_true rfl, Nat.le_of_ble_eq_true rfl⟩ ⟨Nat.le_of_ble_eq_true rfl, Nat.le_of_ble_eq_true rfl⟩ rfl (Nat.le_of_ble_eq_true rfl) dX7_push_22 (fun v_ f_ H locs hp_ hH hS => ?_)
    obtain ⟨rfl, ef_⟩ := hp_
    rw [ef_] at hH
    clear ef_
    refine W.eq (g2 := F0 m 25 ls [.int (bI (goN (gs i).2.1 to))]) rfl ?_
    refine lv_if_ne (tgt := 38) hx hb dX7_push_25 (by decide) (fun c2 => ?_) (fun c2 => ?_)
    · have hb3 : (!(gs i).2.2.2.2.2.2.2.2 && goN (gs i).2.1 to) = true := by rw [bI_0.mp c1, bI_n.mp c2]; rfl
      refine lv_aload_n hx hb dX7_push_38 rfl (lv_at hl 0 rfl) ?_
      refine lv_aload_n hx hb dX7_push_39 rfl (lv_at hl 1 rfl) ?_
      refine lv_aload_n hx hb dX7_push_40 rfl (lv_at hl 0 rfl) ?_
      refine lv_iload_n hx hb dX7_push_41 rfl (lv_at hl 3 rfl) ?_
      refine hm_callV (rest := [.ref ((G i))]) (k := 4) q3_126 q3_128 q1_1 q3_129 q0_6 rfl nm_X7_isFollowing rfl hx hb hml hown hts hK hO hS hH hl.1 hx0 (c_isFollowing Γ l x0 lp lg lt ca tr pl lim rf so sp sh sm aT ct_ nt T (fun i => tx5 (ts i)) (G i) (P (gs i).1) _ _ _ _ _ _ (gs i).2.1 (gs i).2.2.1 (gs i).2.2.2.2.2.2.2.2 (nI (gs i).1) _ _ (nI to) f hx0 hLT (by omega) (by omega) hT hGi (hP _ hgo)) ⟨Nat.le_of_ble_eq_true rfl, Nat.le_of_ble_eq_true rfl⟩ ⟨Nat.le_of_ble_eq_true rfl, Nat.le_of_ble_eq_true rfl⟩ rfl (Nat.le_of_ble_eq_true rfl) dX7_push_42 (fun v_ f_ H locs hp_ hH hS => ?_)
      obtain ⟨rfl, ef_⟩ := hp_
      rw [ef_] at hH
      clear ef_
      obtain ⟨FO, eFO⟩ : ∃ FO, FO = (folB (fun i => tx5 (ts i)) (b5 (gs i).2.1) (nI (gs i).2.2.1) (nI (gs i).1) (nI to) nt) := ⟨_, rfl⟩
      rw [← eFO]
      refine W.eq (g2 := F0 m 45 ls [.int (bI FO), .ref ((G i))]) rfl ?_
      refine hm_callV (rest := []) (k := 2) q3_131 q3_132 q1_23 q3_134 q3_133 rfl nm_X3_noteFollowing rfl hx hb hml hown hts hK hO hS hH hl.1 hGi (c_X3_noteFollowing Γ l (G i) (P (gs i).1) _ _ _ _ _ _ _ _ _ FO f hGi) ⟨Nat.le_of_ble_eq_true rfl, Nat.le_of_ble_eq_true rfl⟩ ⟨Nat.le_of_ble_eq_true rfl, Nat.le_of_ble_eq_true rfl⟩ rfl (Nat.le_of_ble_eq_true rfl) dX7_push_45 (fun v_ fg3 H locs hp_ hH hS => ?_)
      obtain ⟨rfl, efg3⟩ := hp_
      refine W.eq (g2 := F0 m 48 ls []) rfl ?_
      have hgfg3 : fg3 (G i) = some (eR 3 [.ref ((P (gs i).1)), .int ((1 <<< (nI i &&& 31))), .long (b5 (gs i).2.1), .int (nI (gs i).2.2.1), .int ((gs i).2.2.2.1), .int ((gs i).2.2.2.2.1), .int ((if FO = true then (gs i).2.2.2.2.2.1 + 1 else 0)), .int (mxI (gs i).2.2.2.2.2.2.1 (if FO = true then (gs i).2.2.2.2.2.1 + 1 else 0)), .int ((gs i).2.2.2.2.2.2.2.1), .int (bI (gs i).2.2.2.2.2.2.2.2)]) := by rw [efg3]; exact hm_us
      have kd4 : hm_kd (kX [3]) Γ f fg3 := (by rw [efg3]; exact hm_kd.up hGi rfl)
      have ko5 : ∀ j, j < ng → j ≠ i → fg3 (G j) = some (gx P j (gs j)) := fun j hj hji => by rw [efg3]; exact (hm_un (fun z => hji (hGj j i hj hi z))).trans (hG j hj)
      refine lv_aload_n hx hb dX7_push_48 rfl (lv_at hl 0 rfl) ?_
      refine lv_iload_n hx hb dX7_push_49 rfl (lv_at hl 3 rfl) ?_
      refine hm_callV (rest := []) (k := 5) q3_136 q3_137 q1_23 q3_139 q3_138 rfl nm_X3_go rfl hx hb hml hown hts hK hO hS hH hl.1 hgfg3 (c_X3_go Γ l (G i) (P (gs i).1) to (gs i).2.2.1 (gs i).2.1 _ _ _ _ _ _ _ fg3 ht31 hto hgfg3) ⟨Nat.le_of_ble_eq_true rfl, Nat.le_of_ble_eq_true rfl⟩ ⟨Nat.le_of_ble_eq_true rfl, Nat.le_of_ble_eq_true rfl⟩ rfl (Nat.le_of_ble_eq_true rfl) dX7_push_50 (fun v_ fg6 H locs hp_ hH hS => ?_)
      obtain ⟨rfl, efg6⟩ := hp_
      refine W.eq (g2 := F0 m 53 ls [.int (nI (gainT (gs i).2.1 to))]) rfl ?_
      have hgfg6 : fg6 (G i) = some (eR 3 [.ref ((P (gs i).1)), .int ((1 <<< (nI i &&& 31))), .long (b5 (drawT (pushT (gs i).2.1 to) (gs i).2.2.1)), .int (nI (nxt (nxt (gs i).2.2.1))), .int ((gs i).2.2.2.1 + nI (gainT (gs i).2.1 to)), .int ((gs i).2.2.2.2.1 + 1), .int ((if FO = true then (gs i).2.2.2.2.2.1 + 1 else 0)), .int (mxI (gs i).2.2.2.2.2.2.1 (if FO = true then (gs i).2.2.2.2.2.1 + 1 else 0)), .int ((gs i).2.2.2.2.2.2.2.1), .int (bI (gs i).2.2.2.2.2.2.2.2)]) := by rw [efg6]; exact hm_us
      have kd7 : hm_kd (kX [3]) Γ f fg6 := kd4.tr (by rw [efg6]; exact hm_kd.up hgfg3 rfl)
      have ko8 : ∀ j, j < ng → j ≠ i → fg6 (G j) = some (gx P j (gs j)) := fun j hj hji => by rw [efg6]; exact (hm_un (fun z => hji (hGj j i hj hi z))).trans (ko5 j hj hji)
      subst efg6
      subst efg3
      exact vx_ret (hm_iret hx hb hr hlocks hS hH (⟨by rw [hb1]; (try rw [hix]); rw [hb2]; (try rw [hit]); rw [hb3]; rfl, by rw [hix, hit], (by rw [hix, hit, ← eFO]; exact ⟨lp, lg, lt, ca, tr, pl, ⟨(kd7 _ _ hx0 rfl), aP, cp_, P, aG, cg_, G, aT, ct_, T, ⟨hLP.kps h34 rfl rfl kd7, hcP, fun i hi => kd7 _ _ (hP i hi) rfl, hPj⟩, ⟨hLG.kps h34 rfl rfl kd7, hcG, fun j hj => by { by_cases e : j = i; (subst e; rw [setG_s]; exact hgfg6); (rw [setG_n e]; exact ko8 j hj e) }, hGj⟩, ⟨hLT.kps h34 rfl rfl kd7, hcT, fun i hi => kd7 _ _ (hT i hi) rfl⟩, ⟨hpg, hpt, hgt⟩, hPG, hPT, hGT⟩, hCD.kpt (kX_D kd7 rfl rfl rfl rfl)⟩), kX_M kd7 rfl rfl⟩) (Nat.le_of_ble_eq_true rfl) (Nat.le_of_ble_eq_true rfl) dX7_push_53)
    · exact hm_thr hx hb hst hml hl.1 hown q3_110 q1_25 (text := "the game is void or the push changes nothing") (by decide) xA_UO (by decide +kernel) hts hK hO hS hH dX7_push_28 dX7_push_31 dX7_push_32 dX7_push_34 dX7_push_37 hout hlocks (by have hb0 : (!(gs i).2.2.2.2.2.2.2.2 && goN (gs i).2.1 to) = false := (by rw [bI_0.mp c2, Bool.and_false]); exact ⟨by rw [hb1]; (try rw [hix]); rw [hb2]; (try rw [hit]); rw [hb0]; exact (show (3 : Int32) ≠ 0 by decide), by rw [hb1]; (try rw [hix]); rw [hb2]; (try rw [hit]); rw [hb0]; exact (Or.inr (Or.inr (Or.inl ⟨rfl, rfl⟩))), hC, hm_kd.rf⟩) (Nat.le_of_ble_eq_true rfl) (Nat.le_of_ble_eq_true rfl) (Nat.le_of_ble_eq_true rfl) (Nat.le_of_ble_eq_true rfl) (Nat.le_of_ble_eq_true rfl) (Nat.le_of_ble_eq_true rfl)
