/-! the model: price, hint -/
theorem mokA_ext {rr kp : Nat} {K K' : Nat → EV} {c h m c' h' m' : Int32} (h0 : mokA rr (K, kp, c, h, m)) (hk : kp ≤ 64) (he : ∀ j, j < 64 → K' j = K j) : mokA rr (K', kp, c', h', m') := ⟨h0.1, fun j hj => by show mok (K' j); rw [he j (by have : j < kp := hj; omega)]; exact h0.2 j hj⟩
theorem mix64 (K T : Nat → EV) : ∀ j, j < 64 → mixE K T 64 j = K j := fun j hj => if_pos hj
def setT (ts : Nat → TR) (i : Nat) (y : TR) : Nat → TR := fun j => if j = i then y else ts j
def hitM (x : Int32) (M : MT) : MT := (M.1, M.2.1, M.2.2.1, M.2.2.2.1 + x, M.2.2.2.2)
theorem foldM_hit {go : Nat → Bool} {st : Nat → MT → MT} {x : Int32} : ∀ {n : Nat} {M : MT}, (∀ k, k < n → ∀ M', st k (hitM x M') = hitM x (st k M')) → foldM go st n (hitM x M) = hitM x (foldM go st n M)
  | 0, _, _ => rfl
  | n + 1, M, hs => by
    unfold foldM
    rw [foldM_hit (fun k hk => hs k (by omega))]
    split
    · exact hs n (by omega) _
    · rfl
theorem trM_hitx {cb : Bool} {rr : Nat} {x : Int32} : ∀ {d : Nat} {t : Nat → Nat} {z : Nat} {M : MT}, trM cb rr d t z (hitM x M) = hitM x (trM cb rr d t z M)
  | 0, _, _, _ => rfl
  | d + 1, t, z, M => by
    rw [trM, trM]
    show (match fstM cb (fun j => isFor (M.1 j) (b4 t) (nI z) (nI (d + 1))) M.2.1 with | some i => useM i (hitM x M) | none => _) = _
    cases hf : fstM cb (fun j => isFor (M.1 j) (b4 t) (nI z) (nI (d + 1))) M.2.1 with
    | some i =>
      show (_, _, _, M.2.2.2.1 + x + 1, _) = (_, _, _, M.2.2.2.1 + 1 + x, _)
      rw [Int32.add_assoc, Int32.add_comm x 1, ← Int32.add_assoc]
      rfl
    | none =>
      show keepT cb rr _ _ _ _ _ (foldM (goN t) _ 4 (hitM x (missM M))) = _
      rw [foldM_hit (fun k hk M' => trM_hitx)]
      show keepT cb rr _ _ _ _ _ (hitM x (foldM (goN t) _ 4 (missM M))) = hitM x (keepT cb rr _ _ _ _ _ (foldM (goN t) _ 4 (missM M)))
      cases cb <;> rfl
theorem trM_mis {rr d z : Nat} {t : Nat → Nat} {K : Nat → EV} {kp : Nat} {ck h : Int32} : (trM true rr d t z (K, kp, ck, h, 0)).2.2.2.2 = (trM true rr d t z (K, kp, ck, 0, 0)).2.2.2.2 := by
  have e : ((K, kp, ck, h, 0) : MT) = hitM h (K, kp, ck, 0, 0) := by show _ = (K, kp, ck, 0 + h, 0); rw [Int32.zero_add]
  rw [e, trM_hitx]
  rfl
set_option maxHeartbeats 4000000 in
set_option maxRecDepth 100000 in
theorem w_X8_price (Γ : Gm) (l : Launch) (m0 : Nat) (r : Nat → Nat) (th : Int32) (K : Nat → EV) (kp : Nat) (ck msh msm mso : Int32) (np : Nat) (mon : Nat → Int32) (ng : Nat) (gs : Nat → GS) (nt : Nat) (ts : Nat → TR) (lim : Int32) (rf sp : Int64) (rr : Nat) (v0 v1 : Int32) (f : Hm) (hM : MW Γ f m0 r th K kp ck msh msm mso np mon ng gs nt ts lim rf sp rr) (hnp : np ≤ 4) (hng : ng ≤ 8) (hnt : nt ≤ 60) (hr1 : 1 ≤ rr) (hrr : rr ≤ 64) (hkr : kp ≤ rr) (hrI : rI r) (hgs : GOK np ng gs) (hmk : ∀ a, a < kp → mok (K a)) : Ct Γ l yX8_price cX8_price 3 (some .int) 6 7 448 [.ref m0, .int v0, .int v1] f (mP ((if inB v0 (nI ng) then (if inR v1 1 4 then (if (!(gs (ix v0)).2.2.2.2.2.2.2.2 && !ovN (gs (ix v0)).2.1) then 0 else 3) else 2) else 1 : Int32)) ((mxI (trM true rr (ix v1) (gs (ix v0)).2.1 (gs (ix v0)).2.2.1 (K, kp, ck, 0, 0)).2.2.2.2 1)) (mS m0 r) f (fun f' => ∃ K', (∀ j, j < 64 → K' j = K j) ∧ MW Γ f' m0 r 0 K' kp ck msh msm mso np mon ng gs nt ts lim rf sp rr) (fun f' => MW Γ f' m0 r ((if inB v0 (nI ng) then (if inR v1 1 4 then (if (!(gs (ix v0)).2.2.2.2.2.2.2.2 && !ovN (gs (ix v0)).2.1) then 0 else 3) else 2) else 1 : Int32)) K kp ck msh msm mso np mon ng gs nt ts lim rf sp rr)) := by
  refine Ct_of (by decide +kernel) (Nat.le_of_ble_eq_true rfl) ?_
  intro p e s m args below meth c hx hb hr hml hown hin hlocks hts hH hO hK ls hl
  have hl : lv_has ls 3 [(0, .ref m0), (1, .int v0), (2, .int v1)] := hl
  have hS : va_S (gA Γ) s.heap s.heap [] := va_S.rf
  obtain ⟨⟨dz, gd, hih, mih, fh, hm0⟩, hR⟩ := id hM
  obtain ⟨⟨hk0, hk1, hk2, hk3, hk4, hk5, hk6⟩, ⟨pb, pz, pd, pn, pe, ph, pg, hp0, hp1, hp2, hp3, hp4, hp5, hp6⟩, h0, ⟨hg1, hg2, hg3, hg4, hg5, hg6, hg7, hg8, hg9⟩, ht10, ht11, ht12, ht13⟩ := id hR
  refine lv_aload_n hx hb dX8_price_0 rfl (lv_at hl 0 rfl) ?_
  refine lv_iload_n hx hb dX8_price_1 rfl (lv_at hl 1 rfl) ?_
  refine lv_iload_n hx hb dX8_price_2 rfl (lv_at hl 2 rfl) ?_
  refine hm_callV (rest := []) (k := 5) q5_193 q5_195 q1_9 q5_196 q0_24 rfl nm_X8_noHint rfl hx hb hml hown hts hK hO hS hH hl.1 hm0 (w_X8_noHint Γ l m0 r th K kp ck msh msm mso np mon ng gs nt ts lim rf sp rr v0 v1 f hM hnp hng hnt hr1 hrr hkr hrI hgs) ⟨Nat.le_of_ble_eq_true rfl, Nat.le_of_ble_eq_true rfl⟩ ⟨Nat.le_of_ble_eq_true rfl, Nat.le_of_ble_eq_true rfl⟩ rfl (Nat.le_of_ble_eq_true rfl) dX8_price_3 (fun v_ f1_ H locs hp_ hH hS => ?_)
  obtain ⟨hp_, hfrn⟩ := hp_
  rcases hp_ with ⟨hK0, rfl, hM1⟩ | ⟨hKn, rfl, hM1⟩
  · refine W.eq (g2 := F0 m 6 ls [.int 0]) rfl ?_
    obtain ⟨⟨dz, gd, hih, mih, fh, hm0⟩, hR⟩ := id hM1
    obtain ⟨⟨hk0, hk1, hk2, hk3, hk4, hk5, hk6⟩, ⟨pb, pz, pd, pn, pe, ph, pg, hp0, hp1, hp2, hp3, hp4, hp5, hp6⟩, h0, ⟨hg1, hg2, hg3, hg4, hg5, hg6, hg7, hg8, hg9⟩, ht10, ht11, ht12, ht13⟩ := id hR
    obtain ⟨hb1, hb2, hb3⟩ := kh0 hK0
    obtain ⟨i, hi, rfl⟩ := (inB_iff (by omega)).mp hb1
    obtain ⟨d, hd, rfl⟩ := dep_inR hb2
    obtain ⟨hgo, hgw, hgz⟩ := hgs i hi
    have hi8 : i < 8 := by omega
    have hix : ix (nI i) = i := ix_nI (by omega)
    have hid : ix (nI d) = d := ix_nI (by omega)
    have hd4 := hd.2
    have hmoA : mokA rr (K, kp, ck, hih, mih) := ⟨hkr, hmk⟩
    refine lv_if_eq (tgt := 13) hx hb dX8_price_6 (by decide) (fun _ => ?_) (fun c1 => absurd (by decide) c1)
    refine lv_aload_n hx hb dX8_price_13 rfl (lv_at hl 0 rfl) ?_
    refine lv_iload_n hx hb dX8_price_14 rfl (lv_at hl 1 rfl) ?_
    refine lv_iload_n hx hb dX8_price_15 rfl (lv_at hl 2 rfl) ?_
    refine hm_callV (rest := []) (k := 5) q5_197 q5_199 q1_9 q5_200 q0_25 rfl nm_X8_priceOf rfl hx hb hml hown hts hK hO hS hH hl.1 hm0 (c_X8_priceOf Γ l m0 r 0 (nI np) (nI ng) (nI nt) lim msh msm mso sp rf rr (K, kp, ck, hih, mih) dz gd fh pb pz pd pn pe ph pg (gs i).2.1 (gs i).2.2.1 d i _ _ f1_ ⟨hm0, ⟨hk0, hk1, hk2, hk3, hk4, hk5, hk6⟩, ⟨hp0, hp1, hp2, hp3, hp4, hp5, hp6⟩⟩ hrI hrr hr1 hmoA hd4 (by omega) hgz hi8 hg1 hg2 rfl rfl) ⟨Nat.le_of_ble_eq_true rfl, Nat.le_of_ble_eq_true rfl⟩ ⟨Nat.le_of_ble_eq_true rfl, Nat.le_of_ble_eq_true rfl⟩ rfl (Nat.le_of_ble_eq_true rfl) dX8_price_16 (fun v_ f2_ H locs hp_ hH hS => ?_)
    obtain ⟨rfl, ⟨dz2, gd2, pb2, pz2, pd2, pn2, pe2, ph2, pg2, hHd2⟩, hfr2⟩ := hp_
    refine W.eq (g2 := F0 m 19 ls [.int ((mxI (trM true rr d (gs i).2.1 (gs i).2.2.1 (K, kp, ck, hih, 0)).2.2.2.2 1))]) rfl ?_
    obtain ⟨hm2, ⟨hx0, hx1, hx2, hx3, hx4, hx5, hx6⟩, ⟨hy0, hy1, hy2, hy3, hy4, hy5, hy6⟩⟩ := id hHd2
    have hfrp : hm_k (mS m0 r) f f2_ := hfrn.tr (hfr2.mono (fun q hq => mS_w hq))
    have h2 : f2_ (r 0) = some (eI Γ 4 mon) := hfr2 _ _ (wS_low hm0 h0 hrI (by decide)) h0
    have h3 : f2_ (r 1) = some (eJ Γ 8 (fun i => b4 (gs i).2.1)) := hfr2 _ _ (wS_low hm0 hg1 hrI (by decide)) hg1
    have h4 : f2_ (r 2) = some (eI Γ 8 (fun i => nI (gs i).2.2.1)) := hfr2 _ _ (wS_low hm0 hg2 hrI (by decide)) hg2
    have h5 : f2_ (r 3) = some (eI Γ 8 (fun i => nI (gs i).1)) := hfr2 _ _ (wS_low hm0 hg3 hrI (by decide)) hg3
    have h6 : f2_ (r 4) = some (eI Γ 8 (fun i => (gs i).2.2.2.1)) := hfr2 _ _ (wS_low hm0 hg4 hrI (by decide)) hg4
    have h7 : f2_ (r 5) = some (eI Γ 8 (fun i => (gs i).2.2.2.2.1)) := hfr2 _ _ (wS_low hm0 hg5 hrI (by decide)) hg5
    have h8 : f2_ (r 6) = some (eI Γ 8 (fun i => (gs i).2.2.2.2.2.1)) := hfr2 _ _ (wS_low hm0 hg6 hrI (by decide)) hg6
    have h9 : f2_ (r 7) = some (eI Γ 8 (fun i => (gs i).2.2.2.2.2.2.1)) := hfr2 _ _ (wS_low hm0 hg7 hrI (by decide)) hg7
    have h10 : f2_ (r 8) = some (eI Γ 8 (fun i => (gs i).2.2.2.2.2.2.2.1)) := hfr2 _ _ (wS_low hm0 hg8 hrI (by decide)) hg8
    have h11 : f2_ (r 9) = some (eZ Γ 8 (fun i => bI (gs i).2.2.2.2.2.2.2.2)) := hfr2 _ _ (wS_low hm0 hg9 hrI (by decide)) hg9
    have h12 : f2_ (r 10) = some (eJ Γ 60 (fun i => b4 (ts i).2.1)) := hfr2 _ _ (wS_low hm0 ht10 hrI (by decide)) ht10
    have h13 : f2_ (r 11) = some (eI Γ 60 (fun i => nI (ts i).2.2.1)) := hfr2 _ _ (wS_low hm0 ht11 hrI (by decide)) ht11
    have h14 : f2_ (r 12) = some (eI Γ 60 (fun i => nI (ts i).1)) := hfr2 _ _ (wS_low hm0 ht12 hrI (by decide)) ht12
    have h15 : f2_ (r 13) = some (eI Γ 60 (fun i => (ts i).2.2.2)) := hfr2 _ _ (wS_low hm0 ht13 hrI (by decide)) ht13
    obtain ⟨K2, eK2⟩ : ∃ K2, K2 = mixE K (trM true rr d (gs i).2.1 (gs i).2.2.1 (K, kp, ck, hih, 0)).1 64 := ⟨_, rfl⟩
    have hK2 : ∀ j, j < 64 → K2 j = K j := fun j hj => by rw [eK2]; exact mix64 _ _ j hj
    have hz0 : f2_ (r 14) = some (eJ Γ 64 (fun j => (K2 j).1)) := by rw [eK2]; exact hx0
    have hz1 : f2_ (r 15) = some (eI Γ 64 (fun j => (K2 j).2.1)) := by rw [eK2]; exact hx1
    have hz2 : f2_ (r 16) = some (eI Γ 64 (fun j => (K2 j).2.2.1)) := by rw [eK2]; exact hx2
    have hz3 : f2_ (r 17) = some (eI Γ 64 (fun j => (K2 j).2.2.2.1)) := by rw [eK2]; exact hx3
    have hz4 : f2_ (r 18) = some (eI Γ 64 (fun j => (K2 j).2.2.2.2.1)) := by rw [eK2]; exact hx4
    have hz5 : f2_ (r 19) = some (eI Γ 64 (fun j => (K2 j).2.2.2.2.2.1)) := by rw [eK2]; exact hx5
    have hz6 : f2_ (r 20) = some (eI Γ 64 (fun j => (K2 j).2.2.2.2.2.2)) := by rw [eK2]; exact hx6
    exact hm_iret hx hb hr hlocks hS hH (⟨Or.inl ⟨hK0, by rw [hix, hid, ← trM_mis (h := hih)], K2, hK2, MW.mk hm2 ⟨⟨hz0, hz1, hz2, hz3, hz4, hz5, hz6⟩, ⟨_, _, _, _, _, _, _, hy0, hy1, hy2, hy3, hy4, hy5, hy6⟩, h2, ⟨h3, h4, h5, h6, h7, h8, h9, h10, h11⟩, h12, h13, h14, h15⟩⟩, hfrp⟩) (Nat.le_of_ble_eq_true rfl) (Nat.le_of_ble_eq_true rfl) dX8_price_19
  · refine W.eq (g2 := F0 m 6 ls [.int 1]) rfl ?_
    refine lv_if_eq (tgt := 13) hx hb dX8_price_6 (by decide) (fun c16 => absurd c16 (by decide)) (fun _ => ?_)
    refine lv_iconst (v := 0) hx hb dX8_price_9 (by decide) ?_
    refine lv_goto (tgt := 19) hx hb dX8_price_10 (by decide) ?_
    exact hm_iret hx hb hr hlocks hS hH (⟨Or.inr ⟨hKn, ⟨_, rfl⟩, hM1⟩, hfrn⟩) (Nat.le_of_ble_eq_true rfl) (Nat.le_of_ble_eq_true rfl) dX8_price_19
theorem kh5 {a b c d e : Bool} (h : (if a then (if b then (if c then 0 else 3) else 2) else 1 : Int32) = 0) : (if a then (if b then (if c then (if d then (if e then 0 else 5) else 4) else 3) else 2) else 1 : Int32) = (if d then (if e then 0 else 5) else 4) := by
  obtain ⟨rfl, rfl, rfl⟩ := kh0 h
  rfl
theorem kh6 {a b c d e : Bool} (h : (if a then (if b then (if c then 0 else 3) else 2) else 1 : Int32) ≠ 0) : (if a then (if b then (if c then (if d then (if e then 0 else 5) else 4) else 3) else 2) else 1 : Int32) = (if a then (if b then (if c then 0 else 3) else 2) else 1) := by
  revert h; cases a <;> cases b <;> cases c <;> cases d <;> cases e <;> decide
set_option maxHeartbeats 4000000 in
set_option maxRecDepth 100000 in
theorem w_X8_hint (Γ : Gm) (l : Launch) (m0 : Nat) (r : Nat → Nat) (th : Int32) (K : Nat → EV) (kp : Nat) (ck msh msm mso : Int32) (np : Nat) (mon : Nat → Int32) (ng : Nat) (gs : Nat → GS) (nt : Nat) (ts : Nat → TR) (lim : Int32) (rf sp : Int64) (rr : Nat) (v0 v1 : Int32) (f : Hm) (hM : MW Γ f m0 r th K kp ck msh msm mso np mon ng gs nt ts lim rf sp rr) (hnp : np ≤ 4) (hng : ng ≤ 8) (hnt : nt ≤ 60) (hr1 : 1 ≤ rr) (hrr : rr ≤ 64) (hkr : kp ≤ rr) (hrI : rI r) (hgs : GOK np ng gs) (hmk : ∀ a, a < kp → mok (K a)) : Ct Γ l yX8_hint cX8_hint 5 (some .int) 6 7 448 [.ref m0, .int v0, .int v1] f (mP (if inB v0 (nI ng) then (if inR v1 1 4 then (if (!(gs (ix v0)).2.2.2.2.2.2.2.2 && !ovN (gs (ix v0)).2.1) then (if decide ((mxI (trM true rr (ix v1) (gs (ix v0)).2.1 (gs (ix v0)).2.2.1 (K, kp, ck, 0, 0)).2.2.2.2 1) ≤ mon (gs (ix v0)).1) then (if decide (nt < 60) then 0 else 5) else 4) else 3) else 2) else 1) ((wp (ix v1) (gs (ix v0)).2.1 (gs (ix v0)).2.2.1).2) (mS m0 r) f (fun f' => ∃ K', (∀ j, j < 64 → K' j = K j) ∧ MW Γ f' m0 r 0 ((trM true rr (ix v1) (gs (ix v0)).2.1 (gs (ix v0)).2.2.1 (K', kp, ck, 0, 0)).1) ((trM true rr (ix v1) (gs (ix v0)).2.1 (gs (ix v0)).2.2.1 (K', kp, ck, 0, 0)).2.1) ((trM true rr (ix v1) (gs (ix v0)).2.1 (gs (ix v0)).2.2.1 (K', kp, ck, 0, 0)).2.2.1) ((msh + (trM true rr (ix v1) (gs (ix v0)).2.1 (gs (ix v0)).2.2.1 (K', kp, ck, 0, 0)).2.2.2.1)) ((msm + (trM true rr (ix v1) (gs (ix v0)).2.1 (gs (ix v0)).2.2.1 (K', kp, ck, 0, 0)).2.2.2.2)) ((mso + 1)) np ((upd mon (gs (ix v0)).1 (mon (gs (ix v0)).1 - (mxI (trM true rr (ix v1) (gs (ix v0)).2.1 (gs (ix v0)).2.2.1 (K, kp, ck, 0, 0)).2.2.2.2 1)))) ng ((setG gs (ix v0) ((gs (ix v0)).1, (gs (ix v0)).2.1, (gs (ix v0)).2.2.1, (gs (ix v0)).2.2.2.1, (gs (ix v0)).2.2.2.2.1, (gs (ix v0)).2.2.2.2.2.1, (gs (ix v0)).2.2.2.2.2.2.1, (gs (ix v0)).2.2.2.2.2.2.2.1 + (mxI (trM true rr (ix v1) (gs (ix v0)).2.1 (gs (ix v0)).2.2.1 (K, kp, ck, 0, 0)).2.2.2.2 1), (gs (ix v0)).2.2.2.2.2.2.2.2))) ((nt + 1)) ((setT ts nt ((gs (ix v0)).1, (gs (ix v0)).2.1, (gs (ix v0)).2.2.1, (wp (ix v1) (gs (ix v0)).2.1 (gs (ix v0)).2.2.1).2))) lim rf ((sp + (mxI (trM true rr (ix v1) (gs (ix v0)).2.1 (gs (ix v0)).2.2.1 (K, kp, ck, 0, 0)).2.2.2.2 1).toInt64)) rr) (fun f' => ∃ K', (∀ j, j < 64 → K' j = K j) ∧ MW Γ f' m0 r ((if inB v0 (nI ng) then (if inR v1 1 4 then (if (!(gs (ix v0)).2.2.2.2.2.2.2.2 && !ovN (gs (ix v0)).2.1) then (if decide ((mxI (trM true rr (ix v1) (gs (ix v0)).2.1 (gs (ix v0)).2.2.1 (K, kp, ck, 0, 0)).2.2.2.2 1) ≤ mon (gs (ix v0)).1) then (if decide (nt < 60) then 0 else 5) else 4) else 3) else 2) else 1)) K' kp ck msh msm mso np mon ng gs nt ts lim rf sp rr)) := by
  refine Ct_of (by decide +kernel) (Nat.le_of_ble_eq_true rfl) ?_
  intro p e s m args below meth c hx hb hr hml hown hin hlocks hts hH hO hK ls hl
  have hl : lv_has ls 5 [(0, .ref m0), (1, .int v0), (2, .int v1)] := hl
  have hS : va_S (gA Γ) s.heap s.heap [] := va_S.rf
  obtain ⟨⟨dz, gd, hih, mih, fh, hm0⟩, hR⟩ := id hM
  obtain ⟨⟨hk0, hk1, hk2, hk3, hk4, hk5, hk6⟩, ⟨pb, pz, pd, pn, pe, ph, pg, hp0, hp1, hp2, hp3, hp4, hp5, hp6⟩, h0, ⟨hg1, hg2, hg3, hg4, hg5, hg6, hg7, hg8, hg9⟩, ht10, ht11, ht12, ht13⟩ := id hR
  refine lv_aload_n hx hb dX8_hint_0 rfl (lv_at hl 0 rfl) ?_
  refine lv_iload_n hx hb dX8_hint_1 rfl (lv_at hl 1 rfl) ?_
  refine lv_iload_n hx hb dX8_hint_2 rfl (lv_at hl 2 rfl) ?_
  refine hm_callV (rest := []) (k := 5) q5_193 q5_195 q1_9 q5_196 q0_24 rfl nm_X8_noHint rfl hx hb hml hown hts hK hO hS hH hl.1 hm0 (w_X8_noHint Γ l m0 r th K kp ck msh msm mso np mon ng gs nt ts lim rf sp rr v0 v1 f hM hnp hng hnt hr1 hrr hkr hrI hgs) ⟨Nat.le_of_ble_eq_true rfl, Nat.le_of_ble_eq_true rfl⟩ ⟨Nat.le_of_ble_eq_true rfl, Nat.le_of_ble_eq_true rfl⟩ rfl (Nat.le_of_ble_eq_true rfl) dX8_hint_3 (fun v_ f1_ H locs hp_ hH hS => ?_)
  obtain ⟨hp_, hfrn⟩ := hp_
  rcases hp_ with ⟨hK0, rfl, hM1⟩ | ⟨hKn, rfl, hM1⟩
  · refine W.eq (g2 := F0 m 6 ls [.int 0]) rfl ?_
    obtain ⟨⟨dz, gd, hih, mih, fh, hm0⟩, hR⟩ := id hM1
    obtain ⟨⟨hk0, hk1, hk2, hk3, hk4, hk5, hk6⟩, ⟨pb, pz, pd, pn, pe, ph, pg, hp0, hp1, hp2, hp3, hp4, hp5, hp6⟩, h0, ⟨hg1, hg2, hg3, hg4, hg5, hg6, hg7, hg8, hg9⟩, ht10, ht11, ht12, ht13⟩ := id hR
    obtain ⟨hb1, hb2, hb3⟩ := kh0 hK0
    obtain ⟨i, hi, rfl⟩ := (inB_iff (by omega)).mp hb1
    obtain ⟨d, hd, rfl⟩ := dep_inR hb2
    obtain ⟨hgo, hgw, hgz⟩ := hgs i hi
    have hi8 : i < 8 := by omega
    have hix : ix (nI i) = i := ix_nI (by omega)
    have hid : ix (nI d) = d := ix_nI (by omega)
    have hd4 := hd.2
    have hmoA : mokA rr (K, kp, ck, hih, mih) := ⟨hkr, hmk⟩
    refine lv_if_eq (tgt := 11) hx hb dX8_hint_6 (by decide) (fun _ => ?_) (fun c1 => absurd (by decide) c1)
    refine lv_aload_n hx hb dX8_hint_11 rfl (lv_at hl 0 rfl) ?_
    refine lv_iload_n hx hb dX8_hint_12 rfl (lv_at hl 1 rfl) ?_
    refine lv_iload_n hx hb dX8_hint_13 rfl (lv_at hl 2 rfl) ?_
    refine hm_callV (rest := []) (k := 5) q5_197 q5_199 q1_9 q5_200 q0_25 rfl nm_X8_priceOf rfl hx hb hml hown hts hK hO hS hH hl.1 hm0 (c_X8_priceOf Γ l m0 r 0 (nI np) (nI ng) (nI nt) lim msh msm mso sp rf rr (K, kp, ck, hih, mih) dz gd fh pb pz pd pn pe ph pg (gs i).2.1 (gs i).2.2.1 d i _ _ f1_ ⟨hm0, ⟨hk0, hk1, hk2, hk3, hk4, hk5, hk6⟩, ⟨hp0, hp1, hp2, hp3, hp4, hp5, hp6⟩⟩ hrI hrr hr1 hmoA hd4 (by omega) hgz hi8 hg1 hg2 rfl rfl) ⟨Nat.le_of_ble_eq_true rfl, Nat.le_of_ble_eq_true rfl⟩ ⟨Nat.le_of_ble_eq_true rfl, Nat.le_of_ble_eq_true rfl⟩ rfl (Nat.le_of_ble_eq_true rfl) dX8_hint_14 (fun v_ f2_ H locs hp_ hH hS => ?_)
    obtain ⟨rfl, ⟨dz2, gd2, pb2, pz2, pd2, pn2, pe2, ph2, pg2, hHd2⟩, hfr2⟩ := hp_
    refine W.eq (g2 := F0 m 17 ls [.int ((mxI (trM true rr d (gs i).2.1 (gs i).2.2.1 (K, kp, ck, hih, 0)).2.2.2.2 1))]) rfl ?_
    obtain ⟨hm2, ⟨hx0, hx1, hx2, hx3, hx4, hx5, hx6⟩, ⟨hy0, hy1, hy2, hy3, hy4, hy5, hy6⟩⟩ := id hHd2
    have hfrp : hm_k (mS m0 r) f f2_ := hfrn.tr (hfr2.mono (fun q hq => mS_w hq))
    have h2 : f2_ (r 0) = some (eI Γ 4 mon) := hfr2 _ _ (wS_low hm0 h0 hrI (by decide)) h0
    have h3 : f2_ (r 1) = some (eJ Γ 8 (fun i => b4 (gs i).2.1)) := hfr2 _ _ (wS_low hm0 hg1 hrI (by decide)) hg1
    have h4 : f2_ (r 2) = some (eI Γ 8 (fun i => nI (gs i).2.2.1)) := hfr2 _ _ (wS_low hm0 hg2 hrI (by decide)) hg2
    have h5 : f2_ (r 3) = some (eI Γ 8 (fun i => nI (gs i).1)) := hfr2 _ _ (wS_low hm0 hg3 hrI (by decide)) hg3
    have h6 : f2_ (r 4) = some (eI Γ 8 (fun i => (gs i).2.2.2.1)) := hfr2 _ _ (wS_low hm0 hg4 hrI (by decide)) hg4
    have h7 : f2_ (r 5) = some (eI Γ 8 (fun i => (gs i).2.2.2.2.1)) := hfr2 _ _ (wS_low hm0 hg5 hrI (by decide)) hg5
    have h8 : f2_ (r 6) = some (eI Γ 8 (fun i => (gs i).2.2.2.2.2.1)) := hfr2 _ _ (wS_low hm0 hg6 hrI (by decide)) hg6
    have h9 : f2_ (r 7) = some (eI Γ 8 (fun i => (gs i).2.2.2.2.2.2.1)) := hfr2 _ _ (wS_low hm0 hg7 hrI (by decide)) hg7
    have h10 : f2_ (r 8) = some (eI Γ 8 (fun i => (gs i).2.2.2.2.2.2.2.1)) := hfr2 _ _ (wS_low hm0 hg8 hrI (by decide)) hg8
    have h11 : f2_ (r 9) = some (eZ Γ 8 (fun i => bI (gs i).2.2.2.2.2.2.2.2)) := hfr2 _ _ (wS_low hm0 hg9 hrI (by decide)) hg9
    have h12 : f2_ (r 10) = some (eJ Γ 60 (fun i => b4 (ts i).2.1)) := hfr2 _ _ (wS_low hm0 ht10 hrI (by decide)) ht10
    have h13 : f2_ (r 11) = some (eI Γ 60 (fun i => nI (ts i).2.2.1)) := hfr2 _ _ (wS_low hm0 ht11 hrI (by decide)) ht11
    have h14 : f2_ (r 12) = some (eI Γ 60 (fun i => nI (ts i).1)) := hfr2 _ _ (wS_low hm0 ht12 hrI (by decide)) ht12
    have h15 : f2_ (r 13) = some (eI Γ 60 (fun i => (ts i).2.2.2)) := hfr2 _ _ (wS_low hm0 ht13 hrI (by decide)) ht13
    obtain ⟨K2, eK2⟩ : ∃ K2, K2 = mixE K (trM true rr d (gs i).2.1 (gs i).2.2.1 (K, kp, ck, hih, 0)).1 64 := ⟨_, rfl⟩
    have hK2 : ∀ j, j < 64 → K2 j = K j := fun j hj => by rw [eK2]; exact mix64 _ _ j hj
    have hz0 : f2_ (r 14) = some (eJ Γ 64 (fun j => (K2 j).1)) := by rw [eK2]; exact hx0
    have hz1 : f2_ (r 15) = some (eI Γ 64 (fun j => (K2 j).2.1)) := by rw [eK2]; exact hx1
    have hz2 : f2_ (r 16) = some (eI Γ 64 (fun j => (K2 j).2.2.1)) := by rw [eK2]; exact hx2
    have hz3 : f2_ (r 17) = some (eI Γ 64 (fun j => (K2 j).2.2.2.1)) := by rw [eK2]; exact hx3
    have hz4 : f2_ (r 18) = some (eI Γ 64 (fun j => (K2 j).2.2.2.2.1)) := by rw [eK2]; exact hx4
    have hz5 : f2_ (r 19) = some (eI Γ 64 (fun j => (K2 j).2.2.2.2.2.1)) := by rw [eK2]; exact hx5
    have hz6 : f2_ (r 20) = some (eI Γ 64 (fun j => (K2 j).2.2.2.2.2.2)) := by rw [eK2]; exact hx6
    refine lv_istore_n (lv' := [(3, .int ((mxI (trM true rr d (gs i).2.1 (gs i).2.2.1 (K, kp, ck, hih, 0)).2.2.2.2 1))), (0, .ref m0), (1, .int (nI i)), (2, .int (nI d))]) hx hb dX8_hint_17 rfl hl (by decide) rfl (fun ls hl => ?_)
    refine lv_aload_n hx hb dX8_hint_18 rfl (lv_at hl 1 rfl) ?_
    refine lv_aload_n hx hb dX8_hint_19 rfl (lv_at hl 1 rfl) ?_
    refine gf_X8_7 hx hb hts hown hK hH hm2 rfl dX8_hint_20 ?_
    refine lv_aload_n hx hb dX8_hint_23 rfl (lv_at hl 1 rfl) ?_
    refine gf_X8_20 hx hb hts hown hK hH hm2 rfl dX8_hint_24 ?_
    refine lv_iload_n hx hb dX8_hint_27 rfl (lv_at hl 2 rfl) ?_
    refine hm_iald hx hb hK hH h5 (vp_in_nI hi8 (by decide)) dX8_hint_28 ?_
    refine lv_topi (fun v16 ev16 => ?_)
    replace ev16 : v16 = nI (gs i).1 := ev16.trans (by show nI (gs (nI i).toNatClampNeg).1 = _; rw [nI_clamp (n := i) (by omega)])
    subst ev16
    refine hm_iald hx hb hK hH h2 (vp_in_nI (show (gs i).1 < 4 by omega) (by decide)) dX8_hint_29 ?_
    refine lv_topi (fun v17 ev17 => ?_)
    replace ev17 : v17 = (mon (gs i).1) := ev17.trans (by show mon (nI (gs i).1).toNatClampNeg = _; rw [nI_clamp (by omega)])
    subst ev17
    refine lv_iload_n hx hb dX8_hint_30 rfl (lv_at hl 0 rfl) ?_
    refine lv_icmp_lt (tgt := 38) hx hb dX8_hint_31 (by decide) (fun c18 => ?_) (fun c18 => ?_)
    · refine lv_iconst (v := 0) hx hb dX8_hint_38 (by decide) ?_
      refine lv_iconst (v := 4) hx hb dX8_hint_39 (by decide) ?_
      have hb19 : (decide ((mxI (trM true rr d (gs i).2.1 (gs i).2.2.1 (K, kp, ck, hih, 0)).2.2.2.2 1) ≤ mon (gs i).1)) = false := decide_eq_false (Int32.not_le.mpr c18)
      refine W.eq (g2 := F0 m 40 ls [.int 4, .int (bI (decide ((mxI (trM true rr d (gs i).2.1 (gs i).2.2.1 (K, kp, ck, hih, 0)).2.2.2.2 1) ≤ mon (gs i).1))), .ref m0]) (by rw [hb19]; rfl) ?_
      refine hm_callV (rest := []) (k := 1) q5_119 q5_121 q1_9 q5_122 q0_17 rfl nm_X8_no rfl hx hb hml hown hts hK hO hS hH hl.1 hm2 (c_X8_no Γ l m0 r 0 (nI np) (nI ng) (nI nt) (nI kp) (nI rr) ck lim dz2 gd2 ((trM true rr d (gs i).2.1 (gs i).2.2.1 (K, kp, ck, hih, 0)).2.2.2.1) ((trM true rr d (gs i).2.1 (gs i).2.2.1 (K, kp, ck, hih, 0)).2.2.2.2) ((wp d (gs i).2.1 (gs i).2.2.1).2) msh msm mso sp rf (decide ((mxI (trM true rr d (gs i).2.1 (gs i).2.2.1 (K, kp, ck, hih, 0)).2.2.2.2 1) ≤ mon (gs i).1)) 4 f2_ hm2) ⟨Nat.le_of_ble_eq_true rfl, Nat.le_of_ble_eq_true rfl⟩ ⟨Nat.le_of_ble_eq_true rfl, Nat.le_of_ble_eq_true rfl⟩ rfl (Nat.le_of_ble_eq_true rfl) dX8_hint_40 (fun v_ fn20 H locs hp_ hH hS => ?_)
      obtain ⟨rfl, efn20⟩ := hp_
      rw [hb19] at efn20
      refine W.eq (g2 := F0 m 43 ls [.int 1]) (by rw [hb19]; rfl) ?_
      have hm21 : fn20 m0 = some (eM r 4 (nI np) (nI ng) (nI nt) (nI kp) (nI rr) ck lim dz2 gd2 ((trM true rr d (gs i).2.1 (gs i).2.2.1 (K, kp, ck, hih, 0)).2.2.2.1) ((trM true rr d (gs i).2.1 (gs i).2.2.1 (K, kp, ck, hih, 0)).2.2.2.2) ((wp d (gs i).2.1 (gs i).2.2.1).2) msh msm mso sp rf) := by rw [efn20]; exact hm_us
      have h22 : fn20 ((r 0)) = some (eI Γ 4 mon) := by rw [efn20]; exact (hm_un (hm_ne h2 hm2 (fun q => by cases q))).trans h2
      have h23 : fn20 ((r 1)) = some (eJ Γ 8 (fun i => b4 (gs i).2.1)) := by rw [efn20]; exact (hm_un (hm_ne h3 hm2 (fun q => by cases q))).trans h3
      have h24 : fn20 ((r 2)) = some (eI Γ 8 (fun i => nI (gs i).2.2.1)) := by rw [efn20]; exact (hm_un (hm_ne h4 hm2 (fun q => by cases q))).trans h4
      have h25 : fn20 ((r 3)) = some (eI Γ 8 (fun i => nI (gs i).1)) := by rw [efn20]; exact (hm_un (hm_ne h5 hm2 (fun q => by cases q))).trans h5
      have h26 : fn20 ((r 4)) = some (eI Γ 8 (fun i => (gs i).2.2.2.1)) := by rw [efn20]; exact (hm_un (hm_ne h6 hm2 (fun q => by cases q))).trans h6
      have h27 : fn20 ((r 5)) = some (eI Γ 8 (fun i => (gs i).2.2.2.2.1)) := by rw [efn20]; exact (hm_un (hm_ne h7 hm2 (fun q => by cases q))).trans h7
      have h28 : fn20 ((r 6)) = some (eI Γ 8 (fun i => (gs i).2.2.2.2.2.1)) := by rw [efn20]; exact (hm_un (hm_ne h8 hm2 (fun q => by cases q))).trans h8
      have h29 : fn20 ((r 7)) = some (eI Γ 8 (fun i => (gs i).2.2.2.2.2.2.1)) := by rw [efn20]; exact (hm_un (hm_ne h9 hm2 (fun q => by cases q))).trans h9
      have h30 : fn20 ((r 8)) = some (eI Γ 8 (fun i => (gs i).2.2.2.2.2.2.2.1)) := by rw [efn20]; exact (hm_un (hm_ne h10 hm2 (fun q => by cases q))).trans h10
      have h31 : fn20 ((r 9)) = some (eZ Γ 8 (fun i => bI (gs i).2.2.2.2.2.2.2.2)) := by rw [efn20]; exact (hm_un (hm_ne h11 hm2 (fun q => by cases q))).trans h11
      have h32 : fn20 ((r 10)) = some (eJ Γ 60 (fun i => b4 (ts i).2.1)) := by rw [efn20]; exact (hm_un (hm_ne h12 hm2 (fun q => by cases q))).trans h12
      have h33 : fn20 ((r 11)) = some (eI Γ 60 (fun i => nI (ts i).2.2.1)) := by rw [efn20]; exact (hm_un (hm_ne h13 hm2 (fun q => by cases q))).trans h13
      have h34 : fn20 ((r 12)) = some (eI Γ 60 (fun i => nI (ts i).1)) := by rw [efn20]; exact (hm_un (hm_ne h14 hm2 (fun q => by cases q))).trans h14
      have h35 : fn20 ((r 13)) = some (eI Γ 60 (fun i => (ts i).2.2.2)) := by rw [efn20]; exact (hm_un (hm_ne h15 hm2 (fun q => by cases q))).trans h15
      have h36 : fn20 ((r 14)) = some (eJ Γ 64 (fun j => (K2 j).1)) := by rw [efn20]; exact (hm_un (hm_ne hz0 hm2 (fun q => by cases q))).trans hz0
      have h37 : fn20 ((r 15)) = some (eI Γ 64 (fun j => (K2 j).2.1)) := by rw [efn20]; exact (hm_un (hm_ne hz1 hm2 (fun q => by cases q))).trans hz1
      have h38 : fn20 ((r 16)) = some (eI Γ 64 (fun j => (K2 j).2.2.1)) := by rw [efn20]; exact (hm_un (hm_ne hz2 hm2 (fun q => by cases q))).trans hz2
      have h39 : fn20 ((r 17)) = some (eI Γ 64 (fun j => (K2 j).2.2.2.1)) := by rw [efn20]; exact (hm_un (hm_ne hz3 hm2 (fun q => by cases q))).trans hz3
      have h40 : fn20 ((r 18)) = some (eI Γ 64 (fun j => (K2 j).2.2.2.2.1)) := by rw [efn20]; exact (hm_un (hm_ne hz4 hm2 (fun q => by cases q))).trans hz4
      have h41 : fn20 ((r 19)) = some (eI Γ 64 (fun j => (K2 j).2.2.2.2.2.1)) := by rw [efn20]; exact (hm_un (hm_ne hz5 hm2 (fun q => by cases q))).trans hz5
      have h42 : fn20 ((r 20)) = some (eI Γ 64 (fun j => (K2 j).2.2.2.2.2.2)) := by rw [efn20]; exact (hm_un (hm_ne hz6 hm2 (fun q => by cases q))).trans hz6
      have h43 : fn20 ((r 21)) = some (eJ Γ 6 pb2) := by rw [efn20]; exact (hm_un (hm_ne hy0 hm2 (fun q => by cases q))).trans hy0
      have h44 : fn20 ((r 22)) = some (eI Γ 6 pz2) := by rw [efn20]; exact (hm_un (hm_ne hy1 hm2 (fun q => by cases q))).trans hy1
      have h45 : fn20 ((r 23)) = some (eI Γ 6 pd2) := by rw [efn20]; exact (hm_un (hm_ne hy2 hm2 (fun q => by cases q))).trans hy2
      have h46 : fn20 ((r 24)) = some (eI Γ 6 pn2) := by rw [efn20]; exact (hm_un (hm_ne hy3 hm2 (fun q => by cases q))).trans hy3
      have h47 : fn20 ((r 25)) = some (eI Γ 6 pe2) := by rw [efn20]; exact (hm_un (hm_ne hy4 hm2 (fun q => by cases q))).trans hy4
      have h48 : fn20 ((r 26)) = some (eI Γ 6 ph2) := by rw [efn20]; exact (hm_un (hm_ne hy5 hm2 (fun q => by cases q))).trans hy5
      have h49 : fn20 ((r 27)) = some (eI Γ 6 pg2) := by rw [efn20]; exact (hm_un (hm_ne hy6 hm2 (fun q => by cases q))).trans hy6
      refine lv_if_ne (tgt := 68) hx hb dX8_hint_43 (by decide) (fun _ => ?_) (fun c50 => absurd c50 (by decide))
      refine lv_iconst (v := 0) hx hb dX8_hint_68 (by decide) ?_
      have hKe := kh5 (d := decide (mxI (trM true rr (ix (nI d)) (gs (ix (nI i))).2.1 (gs (ix (nI i))).2.2.1 (K, kp, ck, 0, 0)).2.2.2.2 1 ≤ mon (gs (ix (nI i))).1)) (e := decide (nt < 60)) hK0
      have hPR := trM_mis (rr := rr) (d := d) (z := (gs i).2.2.1) (t := (gs i).2.1) (K := K) (kp := kp) (ck := ck) (h := hih)
      have hfr8 : hm_fr (mS m0 r) f2_ fn20 := by
        rw [efn20]
        exact (hm_fr.rf (S := mS m0 r)).up mS_0
      have hfr9 := hfrp.tr hfr8.k
      exact hm_iret hx hb hr hlocks hS hH (⟨Or.inr ⟨(by rw [hKe, hid, hix, ← hPR]; rw [hb19]; exact (show (4 : Int32) ≠ 0 by decide)), ⟨_, rfl⟩, K2, hK2, (by rw [hKe, hid, hix, ← hPR]; rw [hb19]; exact MW.mk hm21 ⟨⟨h36, h37, h38, h39, h40, h41, h42⟩, ⟨_, _, _, _, _, _, _, h43, h44, h45, h46, h47, h48, h49⟩, h22, ⟨h23, h24, h25, h26, h27, h28, h29, h30, h31⟩, h32, h33, h34, h35⟩)⟩, hfr9⟩) (Nat.le_of_ble_eq_true rfl) (Nat.le_of_ble_eq_true rfl) dX8_hint_69
    · refine lv_iconst (v := 1) hx hb dX8_hint_34 (by decide) ?_
      refine lv_goto (tgt := 39) hx hb dX8_hint_35 (by decide) ?_
      refine lv_iconst (v := 4) hx hb dX8_hint_39 (by decide) ?_
      have hb51 : (decide ((mxI (trM true rr d (gs i).2.1 (gs i).2.2.1 (K, kp, ck, hih, 0)).2.2.2.2 1) ≤ mon (gs i).1)) = true := decide_eq_true (Int32.not_lt.mp c18)
      refine W.eq (g2 := F0 m 40 ls [.int 4, .int (bI (decide ((mxI (trM true rr d (gs i).2.1 (gs i).2.2.1 (K, kp, ck, hih, 0)).2.2.2.2 1) ≤ mon (gs i).1))), .ref m0]) (by rw [hb51]; rfl) ?_
      refine hm_callV (rest := []) (k := 1) q5_119 q5_121 q1_9 q5_122 q0_17 rfl nm_X8_no rfl hx hb hml hown hts hK hO hS hH hl.1 hm2 (c_X8_no Γ l m0 r 0 (nI np) (nI ng) (nI nt) (nI kp) (nI rr) ck lim dz2 gd2 ((trM true rr d (gs i).2.1 (gs i).2.2.1 (K, kp, ck, hih, 0)).2.2.2.1) ((trM true rr d (gs i).2.1 (gs i).2.2.1 (K, kp, ck, hih, 0)).2.2.2.2) ((wp d (gs i).2.1 (gs i).2.2.1).2) msh msm mso sp rf (decide ((mxI (trM true rr d (gs i).2.1 (gs i).2.2.1 (K, kp, ck, hih, 0)).2.2.2.2 1) ≤ mon (gs i).1)) 4 f2_ hm2) ⟨Nat.le_of_ble_eq_true rfl, Nat.le_of_ble_eq_true rfl⟩ ⟨Nat.le_of_ble_eq_true rfl, Nat.le_of_ble_eq_true rfl⟩ rfl (Nat.le_of_ble_eq_true rfl) dX8_hint_40 (fun v_ fn52 H locs hp_ hH hS => ?_)
      obtain ⟨rfl, efn52⟩ := hp_
      rw [hb51] at efn52
      refine W.eq (g2 := F0 m 43 ls [.int 0]) (by rw [hb51]; rfl) ?_
      have hm53 : fn52 m0 = some (eM r 0 (nI np) (nI ng) (nI nt) (nI kp) (nI rr) ck lim dz2 gd2 ((trM true rr d (gs i).2.1 (gs i).2.2.1 (K, kp, ck, hih, 0)).2.2.2.1) ((trM true rr d (gs i).2.1 (gs i).2.2.1 (K, kp, ck, hih, 0)).2.2.2.2) ((wp d (gs i).2.1 (gs i).2.2.1).2) msh msm mso sp rf) := by rw [efn52]; exact hm_us
      have h54 : fn52 ((r 0)) = some (eI Γ 4 mon) := by rw [efn52]; exact (hm_un (hm_ne h2 hm2 (fun q => by cases q))).trans h2
      have h55 : fn52 ((r 1)) = some (eJ Γ 8 (fun i => b4 (gs i).2.1)) := by rw [efn52]; exact (hm_un (hm_ne h3 hm2 (fun q => by cases q))).trans h3
      have h56 : fn52 ((r 2)) = some (eI Γ 8 (fun i => nI (gs i).2.2.1)) := by rw [efn52]; exact (hm_un (hm_ne h4 hm2 (fun q => by cases q))).trans h4
      have h57 : fn52 ((r 3)) = some (eI Γ 8 (fun i => nI (gs i).1)) := by rw [efn52]; exact (hm_un (hm_ne h5 hm2 (fun q => by cases q))).trans h5
      have h58 : fn52 ((r 4)) = some (eI Γ 8 (fun i => (gs i).2.2.2.1)) := by rw [efn52]; exact (hm_un (hm_ne h6 hm2 (fun q => by cases q))).trans h6
      have h59 : fn52 ((r 5)) = some (eI Γ 8 (fun i => (gs i).2.2.2.2.1)) := by rw [efn52]; exact (hm_un (hm_ne h7 hm2 (fun q => by cases q))).trans h7
      have h60 : fn52 ((r 6)) = some (eI Γ 8 (fun i => (gs i).2.2.2.2.2.1)) := by rw [efn52]; exact (hm_un (hm_ne h8 hm2 (fun q => by cases q))).trans h8
      have h61 : fn52 ((r 7)) = some (eI Γ 8 (fun i => (gs i).2.2.2.2.2.2.1)) := by rw [efn52]; exact (hm_un (hm_ne h9 hm2 (fun q => by cases q))).trans h9
      have h62 : fn52 ((r 8)) = some (eI Γ 8 (fun i => (gs i).2.2.2.2.2.2.2.1)) := by rw [efn52]; exact (hm_un (hm_ne h10 hm2 (fun q => by cases q))).trans h10
      have h63 : fn52 ((r 9)) = some (eZ Γ 8 (fun i => bI (gs i).2.2.2.2.2.2.2.2)) := by rw [efn52]; exact (hm_un (hm_ne h11 hm2 (fun q => by cases q))).trans h11
      have h64 : fn52 ((r 10)) = some (eJ Γ 60 (fun i => b4 (ts i).2.1)) := by rw [efn52]; exact (hm_un (hm_ne h12 hm2 (fun q => by cases q))).trans h12
      have h65 : fn52 ((r 11)) = some (eI Γ 60 (fun i => nI (ts i).2.2.1)) := by rw [efn52]; exact (hm_un (hm_ne h13 hm2 (fun q => by cases q))).trans h13
      have h66 : fn52 ((r 12)) = some (eI Γ 60 (fun i => nI (ts i).1)) := by rw [efn52]; exact (hm_un (hm_ne h14 hm2 (fun q => by cases q))).trans h14
      have h67 : fn52 ((r 13)) = some (eI Γ 60 (fun i => (ts i).2.2.2)) := by rw [efn52]; exact (hm_un (hm_ne h15 hm2 (fun q => by cases q))).trans h15
      have h68 : fn52 ((r 14)) = some (eJ Γ 64 (fun j => (K2 j).1)) := by rw [efn52]; exact (hm_un (hm_ne hz0 hm2 (fun q => by cases q))).trans hz0
      have h69 : fn52 ((r 15)) = some (eI Γ 64 (fun j => (K2 j).2.1)) := by rw [efn52]; exact (hm_un (hm_ne hz1 hm2 (fun q => by cases q))).trans hz1
      have h70 : fn52 ((r 16)) = some (eI Γ 64 (fun j => (K2 j).2.2.1)) := by rw [efn52]; exact (hm_un (hm_ne hz2 hm2 (fun q => by cases q))).trans hz2
      have h71 : fn52 ((r 17)) = some (eI Γ 64 (fun j => (K2 j).2.2.2.1)) := by rw [efn52]; exact (hm_un (hm_ne hz3 hm2 (fun q => by cases q))).trans hz3
      have h72 : fn52 ((r 18)) = some (eI Γ 64 (fun j => (K2 j).2.2.2.2.1)) := by rw [efn52]; exact (hm_un (hm_ne hz4 hm2 (fun q => by cases q))).trans hz4
      have h73 : fn52 ((r 19)) = some (eI Γ 64 (fun j => (K2 j).2.2.2.2.2.1)) := by rw [efn52]; exact (hm_un (hm_ne hz5 hm2 (fun q => by cases q))).trans hz5
      have h74 : fn52 ((r 20)) = some (eI Γ 64 (fun j => (K2 j).2.2.2.2.2.2)) := by rw [efn52]; exact (hm_un (hm_ne hz6 hm2 (fun q => by cases q))).trans hz6
      have h75 : fn52 ((r 21)) = some (eJ Γ 6 pb2) := by rw [efn52]; exact (hm_un (hm_ne hy0 hm2 (fun q => by cases q))).trans hy0
      have h76 : fn52 ((r 22)) = some (eI Γ 6 pz2) := by rw [efn52]; exact (hm_un (hm_ne hy1 hm2 (fun q => by cases q))).trans hy1
      have h77 : fn52 ((r 23)) = some (eI Γ 6 pd2) := by rw [efn52]; exact (hm_un (hm_ne hy2 hm2 (fun q => by cases q))).trans hy2
      have h78 : fn52 ((r 24)) = some (eI Γ 6 pn2) := by rw [efn52]; exact (hm_un (hm_ne hy3 hm2 (fun q => by cases q))).trans hy3
      have h79 : fn52 ((r 25)) = some (eI Γ 6 pe2) := by rw [efn52]; exact (hm_un (hm_ne hy4 hm2 (fun q => by cases q))).trans hy4
      have h80 : fn52 ((r 26)) = some (eI Γ 6 ph2) := by rw [efn52]; exact (hm_un (hm_ne hy5 hm2 (fun q => by cases q))).trans hy5
      have h81 : fn52 ((r 27)) = some (eI Γ 6 pg2) := by rw [efn52]; exact (hm_un (hm_ne hy6 hm2 (fun q => by cases q))).trans hy6
      refine lv_if_ne (tgt := 68) hx hb dX8_hint_43 (by decide) (fun c82 => absurd (by decide) c82) (fun _ => ?_)
      refine lv_aload_n hx hb dX8_hint_46 rfl (lv_at hl 1 rfl) ?_
      refine lv_aload_n hx hb dX8_hint_47 rfl (lv_at hl 1 rfl) ?_
      refine gf_X8_162 hx hb hts hown hK hH hm53 rfl dX8_hint_48 ?_
      refine lv_bipush (v := 60) hx hb dX8_hint_51 (by decide) ?_
      refine lv_icmp_ge (tgt := 60) hx hb dX8_hint_53 (by decide) (fun c83 => ?_) (fun c83 => ?_)
      · refine lv_iconst (v := 0) hx hb dX8_hint_60 (by decide) ?_
        refine lv_iconst (v := 5) hx hb dX8_hint_61 (by decide) ?_
        have hb84 : (decide (nt < 60)) = false := decide_eq_false (fun q => absurd (nI_lt q (by decide)) (Int32.not_lt.mpr c83))
        refine W.eq (g2 := F0 m 62 ls [.int 5, .int (bI (decide (nt < 60))), .ref m0]) (by rw [hb84]; rfl) ?_
        refine hm_callV (rest := []) (k := 1) q5_119 q5_121 q1_9 q5_122 q0_17 rfl nm_X8_no rfl hx hb hml hown hts hK hO hS hH hl.1 hm53 (c_X8_no Γ l m0 r 0 (nI np) (nI ng) (nI nt) (nI kp) (nI rr) ck lim dz2 gd2 ((trM true rr d (gs i).2.1 (gs i).2.2.1 (K, kp, ck, hih, 0)).2.2.2.1) ((trM true rr d (gs i).2.1 (gs i).2.2.1 (K, kp, ck, hih, 0)).2.2.2.2) ((wp d (gs i).2.1 (gs i).2.2.1).2) msh msm mso sp rf (decide (nt < 60)) 5 fn52 hm53) ⟨Nat.le_of_ble_eq_true rfl, Nat.le_of_ble_eq_true rfl⟩ ⟨Nat.le_of_ble_eq_true rfl, Nat.le_of_ble_eq_true rfl⟩ rfl (Nat.le_of_ble_eq_true rfl) dX8_hint_62 (fun v_ fn85 H locs hp_ hH hS => ?_)
        obtain ⟨rfl, efn85⟩ := hp_
        rw [hb84] at efn85
        refine W.eq (g2 := F0 m 65 ls [.int 1]) (by rw [hb84]; rfl) ?_
        have hm86 : fn85 m0 = some (eM r 5 (nI np) (nI ng) (nI nt) (nI kp) (nI rr) ck lim dz2 gd2 ((trM true rr d (gs i).2.1 (gs i).2.2.1 (K, kp, ck, hih, 0)).2.2.2.1) ((trM true rr d (gs i).2.1 (gs i).2.2.1 (K, kp, ck, hih, 0)).2.2.2.2) ((wp d (gs i).2.1 (gs i).2.2.1).2) msh msm mso sp rf) := by rw [efn85]; exact hm_us
        have h87 : fn85 ((r 0)) = some (eI Γ 4 mon) := by rw [efn85]; exact (hm_un (hm_ne h54 hm53 (fun q => by cases q))).trans h54
        have h88 : fn85 ((r 1)) = some (eJ Γ 8 (fun i => b4 (gs i).2.1)) := by rw [efn85]; exact (hm_un (hm_ne h55 hm53 (fun q => by cases q))).trans h55
        have h89 : fn85 ((r 2)) = some (eI Γ 8 (fun i => nI (gs i).2.2.1)) := by rw [efn85]; exact (hm_un (hm_ne h56 hm53 (fun q => by cases q))).trans h56
        have h90 : fn85 ((r 3)) = some (eI Γ 8 (fun i => nI (gs i).1)) := by rw [efn85]; exact (hm_un (hm_ne h57 hm53 (fun q => by cases q))).trans h57
        have h91 : fn85 ((r 4)) = some (eI Γ 8 (fun i => (gs i).2.2.2.1)) := by rw [efn85]; exact (hm_un (hm_ne h58 hm53 (fun q => by cases q))).trans h58
        have h92 : fn85 ((r 5)) = some (eI Γ 8 (fun i => (gs i).2.2.2.2.1)) := by rw [efn85]; exact (hm_un (hm_ne h59 hm53 (fun q => by cases q))).trans h59
        have h93 : fn85 ((r 6)) = some (eI Γ 8 (fun i => (gs i).2.2.2.2.2.1)) := by rw [efn85]; exact (hm_un (hm_ne h60 hm53 (fun q => by cases q))).trans h60
        have h94 : fn85 ((r 7)) = some (eI Γ 8 (fun i => (gs i).2.2.2.2.2.2.1)) := by rw [efn85]; exact (hm_un (hm_ne h61 hm53 (fun q => by cases q))).trans h61
        have h95 : fn85 ((r 8)) = some (eI Γ 8 (fun i => (gs i).2.2.2.2.2.2.2.1)) := by rw [efn85]; exact (hm_un (hm_ne h62 hm53 (fun q => by cases q))).trans h62
        have h96 : fn85 ((r 9)) = some (eZ Γ 8 (fun i => bI (gs i).2.2.2.2.2.2.2.2)) := by rw [efn85]; exact (hm_un (hm_ne h63 hm53 (fun q => by cases q))).trans h63
        have h97 : fn85 ((r 10)) = some (eJ Γ 60 (fun i => b4 (ts i).2.1)) := by rw [efn85]; exact (hm_un (hm_ne h64 hm53 (fun q => by cases q))).trans h64
        have h98 : fn85 ((r 11)) = some (eI Γ 60 (fun i => nI (ts i).2.2.1)) := by rw [efn85]; exact (hm_un (hm_ne h65 hm53 (fun q => by cases q))).trans h65
        have h99 : fn85 ((r 12)) = some (eI Γ 60 (fun i => nI (ts i).1)) := by rw [efn85]; exact (hm_un (hm_ne h66 hm53 (fun q => by cases q))).trans h66
        have h100 : fn85 ((r 13)) = some (eI Γ 60 (fun i => (ts i).2.2.2)) := by rw [efn85]; exact (hm_un (hm_ne h67 hm53 (fun q => by cases q))).trans h67
        have h101 : fn85 ((r 14)) = some (eJ Γ 64 (fun j => (K2 j).1)) := by rw [efn85]; exact (hm_un (hm_ne h68 hm53 (fun q => by cases q))).trans h68
        have h102 : fn85 ((r 15)) = some (eI Γ 64 (fun j => (K2 j).2.1)) := by rw [efn85]; exact (hm_un (hm_ne h69 hm53 (fun q => by cases q))).trans h69
        have h103 : fn85 ((r 16)) = some (eI Γ 64 (fun j => (K2 j).2.2.1)) := by rw [efn85]; exact (hm_un (hm_ne h70 hm53 (fun q => by cases q))).trans h70
        have h104 : fn85 ((r 17)) = some (eI Γ 64 (fun j => (K2 j).2.2.2.1)) := by rw [efn85]; exact (hm_un (hm_ne h71 hm53 (fun q => by cases q))).trans h71
        have h105 : fn85 ((r 18)) = some (eI Γ 64 (fun j => (K2 j).2.2.2.2.1)) := by rw [efn85]; exact (hm_un (hm_ne h72 hm53 (fun q => by cases q))).trans h72
        have h106 : fn85 ((r 19)) = some (eI Γ 64 (fun j => (K2 j).2.2.2.2.2.1)) := by rw [efn85]; exact (hm_un (hm_ne h73 hm53 (fun q => by cases q))).trans h73
        have h107 : fn85 ((r 20)) = some (eI Γ 64 (fun j => (K2 j).2.2.2.2.2.2)) := by rw [efn85]; exact (hm_un (hm_ne h74 hm53 (fun q => by cases q))).trans h74
        have h108 : fn85 ((r 21)) = some (eJ Γ 6 pb2) := by rw [efn85]; exact (hm_un (hm_ne h75 hm53 (fun q => by cases q))).trans h75
        have h109 : fn85 ((r 22)) = some (eI Γ 6 pz2) := by rw [efn85]; exact (hm_un (hm_ne h76 hm53 (fun q => by cases q))).trans h76
        have h110 : fn85 ((r 23)) = some (eI Γ 6 pd2) := by rw [efn85]; exact (hm_un (hm_ne h77 hm53 (fun q => by cases q))).trans h77
        have h111 : fn85 ((r 24)) = some (eI Γ 6 pn2) := by rw [efn85]; exact (hm_un (hm_ne h78 hm53 (fun q => by cases q))).trans h78
        have h112 : fn85 ((r 25)) = some (eI Γ 6 pe2) := by rw [efn85]; exact (hm_un (hm_ne h79 hm53 (fun q => by cases q))).trans h79
        have h113 : fn85 ((r 26)) = some (eI Γ 6 ph2) := by rw [efn85]; exact (hm_un (hm_ne h80 hm53 (fun q => by cases q))).trans h80
        have h114 : fn85 ((r 27)) = some (eI Γ 6 pg2) := by rw [efn85]; exact (hm_un (hm_ne h81 hm53 (fun q => by cases q))).trans h81
        refine lv_if_eq (tgt := 70) hx hb dX8_hint_65 (by decide) (fun c115 => absurd c115 (by decide)) (fun _ => ?_)
        refine lv_iconst (v := 0) hx hb dX8_hint_68 (by decide) ?_
        have hKe := kh5 (d := decide (mxI (trM true rr (ix (nI d)) (gs (ix (nI i))).2.1 (gs (ix (nI i))).2.2.1 (K, kp, ck, 0, 0)).2.2.2.2 1 ≤ mon (gs (ix (nI i))).1)) (e := decide (nt < 60)) hK0
        have hPR := trM_mis (rr := rr) (d := d) (z := (gs i).2.2.1) (t := (gs i).2.1) (K := K) (kp := kp) (ck := ck) (h := hih)
        have hfr8 : hm_fr (mS m0 r) f2_ fn85 := by
          rw [efn85, efn52]
          exact ((hm_fr.rf (S := mS m0 r)).up mS_0).up mS_0
        have hfr9 := hfrp.tr hfr8.k
        exact hm_iret hx hb hr hlocks hS hH (⟨Or.inr ⟨(by rw [hKe, hid, hix, ← hPR]; rw [hb51]; rw [hb84]; exact (show (5 : Int32) ≠ 0 by decide)), ⟨_, rfl⟩, K2, hK2, (by rw [hKe, hid, hix, ← hPR]; rw [hb51]; rw [hb84]; exact MW.mk hm86 ⟨⟨h101, h102, h103, h104, h105, h106, h107⟩, ⟨_, _, _, _, _, _, _, h108, h109, h110, h111, h112, h113, h114⟩, h87, ⟨h88, h89, h90, h91, h92, h93, h94, h95, h96⟩, h97, h98, h99, h100⟩)⟩, hfr9⟩) (Nat.le_of_ble_eq_true rfl) (Nat.le_of_ble_eq_true rfl) dX8_hint_69
      · refine lv_iconst (v := 1) hx hb dX8_hint_56 (by decide) ?_
        refine lv_goto (tgt := 61) hx hb dX8_hint_57 (by decide) ?_
        refine lv_iconst (v := 5) hx hb dX8_hint_61 (by decide) ?_
        have hb116 : (decide (nt < 60)) = true := decide_eq_true ((nI_ltI (by omega) (by decide)).mp (Int32.not_le.mp c83))
        refine W.eq (g2 := F0 m 62 ls [.int 5, .int (bI (decide (nt < 60))), .ref m0]) (by rw [hb116]; rfl) ?_
        refine hm_callV (rest := []) (k := 1) q5_119 q5_121 q1_9 q5_122 q0_17 rfl nm_X8_no rfl hx hb hml hown hts hK hO hS hH hl.1 hm53 (c_X8_no Γ l m0 r 0 (nI np) (nI ng) (nI nt) (nI kp) (nI rr) ck lim dz2 gd2 ((trM true rr d (gs i).2.1 (gs i).2.2.1 (K, kp, ck, hih, 0)).2.2.2.1) ((trM true rr d (gs i).2.1 (gs i).2.2.1 (K, kp, ck, hih, 0)).2.2.2.2) ((wp d (gs i).2.1 (gs i).2.2.1).2) msh msm mso sp rf (decide (nt < 60)) 5 fn52 hm53) ⟨Nat.le_of_ble_eq_true rfl, Nat.le_of_ble_eq_true rfl⟩ ⟨Nat.le_of_ble_eq_true rfl, Nat.le_of_ble_eq_true rfl⟩ rfl (Nat.le_of_ble_eq_true rfl) dX8_hint_62 (fun v_ fn117 H locs hp_ hH hS => ?_)
        obtain ⟨rfl, efn117⟩ := hp_
        rw [hb116] at efn117
        refine W.eq (g2 := F0 m 65 ls [.int 0]) (by rw [hb116]; rfl) ?_
        have hm118 : fn117 m0 = some (eM r 0 (nI np) (nI ng) (nI nt) (nI kp) (nI rr) ck lim dz2 gd2 ((trM true rr d (gs i).2.1 (gs i).2.2.1 (K, kp, ck, hih, 0)).2.2.2.1) ((trM true rr d (gs i).2.1 (gs i).2.2.1 (K, kp, ck, hih, 0)).2.2.2.2) ((wp d (gs i).2.1 (gs i).2.2.1).2) msh msm mso sp rf) := by rw [efn117]; exact hm_us
        have h119 : fn117 ((r 0)) = some (eI Γ 4 mon) := by rw [efn117]; exact (hm_un (hm_ne h54 hm53 (fun q => by cases q))).trans h54
        have h120 : fn117 ((r 1)) = some (eJ Γ 8 (fun i => b4 (gs i).2.1)) := by rw [efn117]; exact (hm_un (hm_ne h55 hm53 (fun q => by cases q))).trans h55
        have h121 : fn117 ((r 2)) = some (eI Γ 8 (fun i => nI (gs i).2.2.1)) := by rw [efn117]; exact (hm_un (hm_ne h56 hm53 (fun q => by cases q))).trans h56
        have h122 : fn117 ((r 3)) = some (eI Γ 8 (fun i => nI (gs i).1)) := by rw [efn117]; exact (hm_un (hm_ne h57 hm53 (fun q => by cases q))).trans h57
        have h123 : fn117 ((r 4)) = some (eI Γ 8 (fun i => (gs i).2.2.2.1)) := by rw [efn117]; exact (hm_un (hm_ne h58 hm53 (fun q => by cases q))).trans h58
        have h124 : fn117 ((r 5)) = some (eI Γ 8 (fun i => (gs i).2.2.2.2.1)) := by rw [efn117]; exact (hm_un (hm_ne h59 hm53 (fun q => by cases q))).trans h59
        have h125 : fn117 ((r 6)) = some (eI Γ 8 (fun i => (gs i).2.2.2.2.2.1)) := by rw [efn117]; exact (hm_un (hm_ne h60 hm53 (fun q => by cases q))).trans h60
        have h126 : fn117 ((r 7)) = some (eI Γ 8 (fun i => (gs i).2.2.2.2.2.2.1)) := by rw [efn117]; exact (hm_un (hm_ne h61 hm53 (fun q => by cases q))).trans h61
        have h127 : fn117 ((r 8)) = some (eI Γ 8 (fun i => (gs i).2.2.2.2.2.2.2.1)) := by rw [efn117]; exact (hm_un (hm_ne h62 hm53 (fun q => by cases q))).trans h62
        have h128 : fn117 ((r 9)) = some (eZ Γ 8 (fun i => bI (gs i).2.2.2.2.2.2.2.2)) := by rw [efn117]; exact (hm_un (hm_ne h63 hm53 (fun q => by cases q))).trans h63
        have h129 : fn117 ((r 10)) = some (eJ Γ 60 (fun i => b4 (ts i).2.1)) := by rw [efn117]; exact (hm_un (hm_ne h64 hm53 (fun q => by cases q))).trans h64
        have h130 : fn117 ((r 11)) = some (eI Γ 60 (fun i => nI (ts i).2.2.1)) := by rw [efn117]; exact (hm_un (hm_ne h65 hm53 (fun q => by cases q))).trans h65
        have h131 : fn117 ((r 12)) = some (eI Γ 60 (fun i => nI (ts i).1)) := by rw [efn117]; exact (hm_un (hm_ne h66 hm53 (fun q => by cases q))).trans h66
        have h132 : fn117 ((r 13)) = some (eI Γ 60 (fun i => (ts i).2.2.2)) := by rw [efn117]; exact (hm_un (hm_ne h67 hm53 (fun q => by cases q))).trans h67
        have h133 : fn117 ((r 14)) = some (eJ Γ 64 (fun j => (K2 j).1)) := by rw [efn117]; exact (hm_un (hm_ne h68 hm53 (fun q => by cases q))).trans h68
        have h134 : fn117 ((r 15)) = some (eI Γ 64 (fun j => (K2 j).2.1)) := by rw [efn117]; exact (hm_un (hm_ne h69 hm53 (fun q => by cases q))).trans h69
        have h135 : fn117 ((r 16)) = some (eI Γ 64 (fun j => (K2 j).2.2.1)) := by rw [efn117]; exact (hm_un (hm_ne h70 hm53 (fun q => by cases q))).trans h70
        have h136 : fn117 ((r 17)) = some (eI Γ 64 (fun j => (K2 j).2.2.2.1)) := by rw [efn117]; exact (hm_un (hm_ne h71 hm53 (fun q => by cases q))).trans h71
        have h137 : fn117 ((r 18)) = some (eI Γ 64 (fun j => (K2 j).2.2.2.2.1)) := by rw [efn117]; exact (hm_un (hm_ne h72 hm53 (fun q => by cases q))).trans h72
        have h138 : fn117 ((r 19)) = some (eI Γ 64 (fun j => (K2 j).2.2.2.2.2.1)) := by rw [efn117]; exact (hm_un (hm_ne h73 hm53 (fun q => by cases q))).trans h73
        have h139 : fn117 ((r 20)) = some (eI Γ 64 (fun j => (K2 j).2.2.2.2.2.2)) := by rw [efn117]; exact (hm_un (hm_ne h74 hm53 (fun q => by cases q))).trans h74
        have h140 : fn117 ((r 21)) = some (eJ Γ 6 pb2) := by rw [efn117]; exact (hm_un (hm_ne h75 hm53 (fun q => by cases q))).trans h75
        have h141 : fn117 ((r 22)) = some (eI Γ 6 pz2) := by rw [efn117]; exact (hm_un (hm_ne h76 hm53 (fun q => by cases q))).trans h76
        have h142 : fn117 ((r 23)) = some (eI Γ 6 pd2) := by rw [efn117]; exact (hm_un (hm_ne h77 hm53 (fun q => by cases q))).trans h77
        have h143 : fn117 ((r 24)) = some (eI Γ 6 pn2) := by rw [efn117]; exact (hm_un (hm_ne h78 hm53 (fun q => by cases q))).trans h78
        have h144 : fn117 ((r 25)) = some (eI Γ 6 pe2) := by rw [efn117]; exact (hm_un (hm_ne h79 hm53 (fun q => by cases q))).trans h79
        have h145 : fn117 ((r 26)) = some (eI Γ 6 ph2) := by rw [efn117]; exact (hm_un (hm_ne h80 hm53 (fun q => by cases q))).trans h80
        have h146 : fn117 ((r 27)) = some (eI Γ 6 pg2) := by rw [efn117]; exact (hm_un (hm_ne h81 hm53 (fun q => by cases q))).trans h81
        refine lv_if_eq (tgt := 70) hx hb dX8_hint_65 (by decide) (fun _ => ?_) (fun c147 => absurd (by decide) c147)
        have hnt60 : nt < 60 := of_decide_eq_true hb116
        refine lv_aload_n hx hb dX8_hint_70 rfl (lv_at hl 1 rfl) ?_
        refine lv_iconst (v := 0) hx hb dX8_hint_71 (by decide) ?_
        refine pf_X8_190 hx hb hts hown hK hO hS hH hm118 rfl (Nat.le_of_ble_eq_true rfl) rfl dX8_hint_72 (fun H locs hH hS => ?_)
        obtain ⟨f148, ef148⟩ : ∃ zz_, zz_ = hm_up fn117 m0 (eM r 0 (nI np) (nI ng) (nI nt) (nI kp) (nI rr) ck lim dz2 gd2 0 ((trM true rr d (gs i).2.1 (gs i).2.2.1 (K, kp, ck, hih, 0)).2.2.2.2) ((wp d (gs i).2.1 (gs i).2.2.1).2) msh msm mso sp rf) := ⟨_, rfl⟩
        have hH : hm_H Γ f148 H := by rw [ef148]; exact hH
        have h149 : f148 m0 = some (eM r 0 (nI np) (nI ng) (nI nt) (nI kp) (nI rr) ck lim dz2 gd2 0 ((trM true rr d (gs i).2.1 (gs i).2.2.1 (K, kp, ck, hih, 0)).2.2.2.2) ((wp d (gs i).2.1 (gs i).2.2.1).2) msh msm mso sp rf) := by rw [ef148]; exact hm_us
        have h150 : f148 ((r 0)) = some (eI Γ 4 mon) := by rw [ef148]; exact (hm_un (hm_ne h119 hm118 (fun q => by cases q))).trans h119
        have h151 : f148 ((r 1)) = some (eJ Γ 8 (fun i => b4 (gs i).2.1)) := by rw [ef148]; exact (hm_un (hm_ne h120 hm118 (fun q => by cases q))).trans h120
        have h152 : f148 ((r 2)) = some (eI Γ 8 (fun i => nI (gs i).2.2.1)) := by rw [ef148]; exact (hm_un (hm_ne h121 hm118 (fun q => by cases q))).trans h121
        have h153 : f148 ((r 3)) = some (eI Γ 8 (fun i => nI (gs i).1)) := by rw [ef148]; exact (hm_un (hm_ne h122 hm118 (fun q => by cases q))).trans h122
        have h154 : f148 ((r 4)) = some (eI Γ 8 (fun i => (gs i).2.2.2.1)) := by rw [ef148]; exact (hm_un (hm_ne h123 hm118 (fun q => by cases q))).trans h123
        have h155 : f148 ((r 5)) = some (eI Γ 8 (fun i => (gs i).2.2.2.2.1)) := by rw [ef148]; exact (hm_un (hm_ne h124 hm118 (fun q => by cases q))).trans h124
        have h156 : f148 ((r 6)) = some (eI Γ 8 (fun i => (gs i).2.2.2.2.2.1)) := by rw [ef148]; exact (hm_un (hm_ne h125 hm118 (fun q => by cases q))).trans h125
        have h157 : f148 ((r 7)) = some (eI Γ 8 (fun i => (gs i).2.2.2.2.2.2.1)) := by rw [ef148]; exact (hm_un (hm_ne h126 hm118 (fun q => by cases q))).trans h126
        have h158 : f148 ((r 8)) = some (eI Γ 8 (fun i => (gs i).2.2.2.2.2.2.2.1)) := by rw [ef148]; exact (hm_un (hm_ne h127 hm118 (fun q => by cases q))).trans h127
        have h159 : f148 ((r 9)) = some (eZ Γ 8 (fun i => bI (gs i).2.2.2.2.2.2.2.2)) := by rw [ef148]; exact (hm_un (hm_ne h128 hm118 (fun q => by cases q))).trans h128
        have h160 : f148 ((r 10)) = some (eJ Γ 60 (fun i => b4 (ts i).2.1)) := by rw [ef148]; exact (hm_un (hm_ne h129 hm118 (fun q => by cases q))).trans h129
        have h161 : f148 ((r 11)) = some (eI Γ 60 (fun i => nI (ts i).2.2.1)) := by rw [ef148]; exact (hm_un (hm_ne h130 hm118 (fun q => by cases q))).trans h130
        have h162 : f148 ((r 12)) = some (eI Γ 60 (fun i => nI (ts i).1)) := by rw [ef148]; exact (hm_un (hm_ne h131 hm118 (fun q => by cases q))).trans h131
        have h163 : f148 ((r 13)) = some (eI Γ 60 (fun i => (ts i).2.2.2)) := by rw [ef148]; exact (hm_un (hm_ne h132 hm118 (fun q => by cases q))).trans h132
        have h164 : f148 ((r 14)) = some (eJ Γ 64 (fun j => (K2 j).1)) := by rw [ef148]; exact (hm_un (hm_ne h133 hm118 (fun q => by cases q))).trans h133
        have h165 : f148 ((r 15)) = some (eI Γ 64 (fun j => (K2 j).2.1)) := by rw [ef148]; exact (hm_un (hm_ne h134 hm118 (fun q => by cases q))).trans h134
        have h166 : f148 ((r 16)) = some (eI Γ 64 (fun j => (K2 j).2.2.1)) := by rw [ef148]; exact (hm_un (hm_ne h135 hm118 (fun q => by cases q))).trans h135
        have h167 : f148 ((r 17)) = some (eI Γ 64 (fun j => (K2 j).2.2.2.1)) := by rw [ef148]; exact (hm_un (hm_ne h136 hm118 (fun q => by cases q))).trans h136
        have h168 : f148 ((r 18)) = some (eI Γ 64 (fun j => (K2 j).2.2.2.2.1)) := by rw [ef148]; exact (hm_un (hm_ne h137 hm118 (fun q => by cases q))).trans h137
        have h169 : f148 ((r 19)) = some (eI Γ 64 (fun j => (K2 j).2.2.2.2.2.1)) := by rw [ef148]; exact (hm_un (hm_ne h138 hm118 (fun q => by cases q))).trans h138
        have h170 : f148 ((r 20)) = some (eI Γ 64 (fun j => (K2 j).2.2.2.2.2.2)) := by rw [ef148]; exact (hm_un (hm_ne h139 hm118 (fun q => by cases q))).trans h139
        have h171 : f148 ((r 21)) = some (eJ Γ 6 pb2) := by rw [ef148]; exact (hm_un (hm_ne h140 hm118 (fun q => by cases q))).trans h140
        have h172 : f148 ((r 22)) = some (eI Γ 6 pz2) := by rw [ef148]; exact (hm_un (hm_ne h141 hm118 (fun q => by cases q))).trans h141
        have h173 : f148 ((r 23)) = some (eI Γ 6 pd2) := by rw [ef148]; exact (hm_un (hm_ne h142 hm118 (fun q => by cases q))).trans h142
        have h174 : f148 ((r 24)) = some (eI Γ 6 pn2) := by rw [ef148]; exact (hm_un (hm_ne h143 hm118 (fun q => by cases q))).trans h143
        have h175 : f148 ((r 25)) = some (eI Γ 6 pe2) := by rw [ef148]; exact (hm_un (hm_ne h144 hm118 (fun q => by cases q))).trans h144
        have h176 : f148 ((r 26)) = some (eI Γ 6 ph2) := by rw [ef148]; exact (hm_un (hm_ne h145 hm118 (fun q => by cases q))).trans h145
        have h177 : f148 ((r 27)) = some (eI Γ 6 pg2) := by rw [ef148]; exact (hm_un (hm_ne h146 hm118 (fun q => by cases q))).trans h146
        refine lv_aload_n hx hb dX8_hint_75 rfl (lv_at hl 1 rfl) ?_
        refine lv_iconst (v := 0) hx hb dX8_hint_76 (by decide) ?_
        refine pf_X8_193 hx hb hts hown hK hO hS hH h149 rfl (Nat.le_of_ble_eq_true rfl) rfl dX8_hint_77 (fun H locs hH hS => ?_)
        obtain ⟨f178, ef178⟩ : ∃ zz_, zz_ = hm_up f148 m0 (eM r 0 (nI np) (nI ng) (nI nt) (nI kp) (nI rr) ck lim dz2 gd2 0 0 ((wp d (gs i).2.1 (gs i).2.2.1).2) msh msm mso sp rf) := ⟨_, rfl⟩
        have hH : hm_H Γ f178 H := by rw [ef178]; exact hH
        have h179 : f178 m0 = some (eM r 0 (nI np) (nI ng) (nI nt) (nI kp) (nI rr) ck lim dz2 gd2 0 0 ((wp d (gs i).2.1 (gs i).2.2.1).2) msh msm mso sp rf) := by rw [ef178]; exact hm_us
        have h180 : f178 ((r 0)) = some (eI Γ 4 mon) := by rw [ef178]; exact (hm_un (hm_ne h150 h149 (fun q => by cases q))).trans h150
        have h181 : f178 ((r 1)) = some (eJ Γ 8 (fun i => b4 (gs i).2.1)) := by rw [ef178]; exact (hm_un (hm_ne h151 h149 (fun q => by cases q))).trans h151
        have h182 : f178 ((r 2)) = some (eI Γ 8 (fun i => nI (gs i).2.2.1)) := by rw [ef178]; exact (hm_un (hm_ne h152 h149 (fun q => by cases q))).trans h152
        have h183 : f178 ((r 3)) = some (eI Γ 8 (fun i => nI (gs i).1)) := by rw [ef178]; exact (hm_un (hm_ne h153 h149 (fun q => by cases q))).trans h153
        have h184 : f178 ((r 4)) = some (eI Γ 8 (fun i => (gs i).2.2.2.1)) := by rw [ef178]; exact (hm_un (hm_ne h154 h149 (fun q => by cases q))).trans h154
        have h185 : f178 ((r 5)) = some (eI Γ 8 (fun i => (gs i).2.2.2.2.1)) := by rw [ef178]; exact (hm_un (hm_ne h155 h149 (fun q => by cases q))).trans h155
        have h186 : f178 ((r 6)) = some (eI Γ 8 (fun i => (gs i).2.2.2.2.2.1)) := by rw [ef178]; exact (hm_un (hm_ne h156 h149 (fun q => by cases q))).trans h156
        have h187 : f178 ((r 7)) = some (eI Γ 8 (fun i => (gs i).2.2.2.2.2.2.1)) := by rw [ef178]; exact (hm_un (hm_ne h157 h149 (fun q => by cases q))).trans h157
        have h188 : f178 ((r 8)) = some (eI Γ 8 (fun i => (gs i).2.2.2.2.2.2.2.1)) := by rw [ef178]; exact (hm_un (hm_ne h158 h149 (fun q => by cases q))).trans h158
        have h189 : f178 ((r 9)) = some (eZ Γ 8 (fun i => bI (gs i).2.2.2.2.2.2.2.2)) := by rw [ef178]; exact (hm_un (hm_ne h159 h149 (fun q => by cases q))).trans h159
        have h190 : f178 ((r 10)) = some (eJ Γ 60 (fun i => b4 (ts i).2.1)) := by rw [ef178]; exact (hm_un (hm_ne h160 h149 (fun q => by cases q))).trans h160
        have h191 : f178 ((r 11)) = some (eI Γ 60 (fun i => nI (ts i).2.2.1)) := by rw [ef178]; exact (hm_un (hm_ne h161 h149 (fun q => by cases q))).trans h161
        have h192 : f178 ((r 12)) = some (eI Γ 60 (fun i => nI (ts i).1)) := by rw [ef178]; exact (hm_un (hm_ne h162 h149 (fun q => by cases q))).trans h162
        have h193 : f178 ((r 13)) = some (eI Γ 60 (fun i => (ts i).2.2.2)) := by rw [ef178]; exact (hm_un (hm_ne h163 h149 (fun q => by cases q))).trans h163
        have h194 : f178 ((r 14)) = some (eJ Γ 64 (fun j => (K2 j).1)) := by rw [ef178]; exact (hm_un (hm_ne h164 h149 (fun q => by cases q))).trans h164
        have h195 : f178 ((r 15)) = some (eI Γ 64 (fun j => (K2 j).2.1)) := by rw [ef178]; exact (hm_un (hm_ne h165 h149 (fun q => by cases q))).trans h165
        have h196 : f178 ((r 16)) = some (eI Γ 64 (fun j => (K2 j).2.2.1)) := by rw [ef178]; exact (hm_un (hm_ne h166 h149 (fun q => by cases q))).trans h166
        have h197 : f178 ((r 17)) = some (eI Γ 64 (fun j => (K2 j).2.2.2.1)) := by rw [ef178]; exact (hm_un (hm_ne h167 h149 (fun q => by cases q))).trans h167
        have h198 : f178 ((r 18)) = some (eI Γ 64 (fun j => (K2 j).2.2.2.2.1)) := by rw [ef178]; exact (hm_un (hm_ne h168 h149 (fun q => by cases q))).trans h168
        have h199 : f178 ((r 19)) = some (eI Γ 64 (fun j => (K2 j).2.2.2.2.2.1)) := by rw [ef178]; exact (hm_un (hm_ne h169 h149 (fun q => by cases q))).trans h169
        have h200 : f178 ((r 20)) = some (eI Γ 64 (fun j => (K2 j).2.2.2.2.2.2)) := by rw [ef178]; exact (hm_un (hm_ne h170 h149 (fun q => by cases q))).trans h170
        have h201 : f178 ((r 21)) = some (eJ Γ 6 pb2) := by rw [ef178]; exact (hm_un (hm_ne h171 h149 (fun q => by cases q))).trans h171
        have h202 : f178 ((r 22)) = some (eI Γ 6 pz2) := by rw [ef178]; exact (hm_un (hm_ne h172 h149 (fun q => by cases q))).trans h172
        have h203 : f178 ((r 23)) = some (eI Γ 6 pd2) := by rw [ef178]; exact (hm_un (hm_ne h173 h149 (fun q => by cases q))).trans h173
        have h204 : f178 ((r 24)) = some (eI Γ 6 pn2) := by rw [ef178]; exact (hm_un (hm_ne h174 h149 (fun q => by cases q))).trans h174
        have h205 : f178 ((r 25)) = some (eI Γ 6 pe2) := by rw [ef178]; exact (hm_un (hm_ne h175 h149 (fun q => by cases q))).trans h175
        have h206 : f178 ((r 26)) = some (eI Γ 6 ph2) := by rw [ef178]; exact (hm_un (hm_ne h176 h149 (fun q => by cases q))).trans h176
        have h207 : f178 ((r 27)) = some (eI Γ 6 pg2) := by rw [ef178]; exact (hm_un (hm_ne h177 h149 (fun q => by cases q))).trans h177
        refine lv_aload_n hx hb dX8_hint_80 rfl (lv_at hl 1 rfl) ?_
        refine lv_aload_n hx hb dX8_hint_81 rfl (lv_at hl 1 rfl) ?_
        refine gf_X8_13 hx hb hts hown hK hH h179 rfl dX8_hint_82 ?_
        refine lv_iload_n hx hb dX8_hint_85 rfl (lv_at hl 2 rfl) ?_
        refine hm_lald hx hb hK hH h181 (vp_in_nI hi8 (by decide)) dX8_hint_86 ?_
        refine lv_topl (fun v208 ev208 => ?_)
        replace ev208 : v208 = b4 (gs i).2.1 := ev208.trans (by show b4 (gs (nI i).toNatClampNeg).2.1 = _; rw [nI_clamp (n := i) (by omega)])
        subst ev208
        refine lv_aload_n hx hb dX8_hint_87 rfl (lv_at hl 1 rfl) ?_
        refine gf_X8_17 hx hb hts hown hK hH h179 rfl dX8_hint_88 ?_
        refine lv_iload_n hx hb dX8_hint_91 rfl (lv_at hl 2 rfl) ?_
        refine hm_iald hx hb hK hH h182 (vp_in_nI hi8 (by decide)) dX8_hint_92 ?_
        refine lv_topi (fun v209 ev209 => ?_)
        replace ev209 : v209 = nI (gs i).2.2.1 := ev209.trans (by show nI (gs (nI i).toNatClampNeg).2.2.1 = _; rw [nI_clamp (n := i) (by omega)])
        subst ev209
        refine lv_iload_n hx hb dX8_hint_93 rfl (lv_at hl 3 rfl) ?_
        refine lv_iconst (v := 1) hx hb dX8_hint_94 (by decide) ?_
        have hfrw : hm_fr (mS m0 r) f2_ f178 := by
          rw [ef178, ef148, efn117, efn52]
          exact ((((hm_fr.rf (S := mS m0 r)).up mS_0).up mS_0).up mS_0).up mS_0
        refine hm_callV (rest := []) (k := 4) q5_213 q5_215 q1_9 q5_216 q0_26 rfl nm_X8_worthOf rfl hx hb hml hown hts hK hO hS hH hl.1 h179 (c_X8_worthOf Γ l m0 r 0 (nI np) (nI ng) (nI nt) lim msh msm mso sp rf rr true (K2, kp, ck, 0, 0) dz2 gd2 ((wp d (gs i).2.1 (gs i).2.2.1).2) pb2 pz2 pd2 pn2 pe2 ph2 pg2 (gs i).2.1 (gs i).2.2.1 d f178 ⟨h179, ⟨h194, h195, h196, h197, h198, h199, h200⟩, ⟨h201, h202, h203, h204, h205, h206, h207⟩⟩ hrI hrr hr1 (mokA_ext hmoA (by omega) hK2) hd4 (by omega) hgz) ⟨Nat.le_of_ble_eq_true rfl, Nat.le_of_ble_eq_true rfl⟩ ⟨Nat.le_of_ble_eq_true rfl, Nat.le_of_ble_eq_true rfl⟩ rfl (Nat.le_of_ble_eq_true rfl) dX8_hint_95 (fun v_ f3_ H locs hp_ hH hS => ?_)
        obtain ⟨rfl, ⟨dz3, gd3, pb3, pz3, pd3, pn3, pe3, ph3, pg3, hHd3⟩, hfr3⟩ := hp_
        refine W.eq (g2 := F0 m 98 ls [.int (nI (wp d (gs i).2.1 (gs i).2.2.1).1)]) rfl ?_
        have hfrq : hm_k (mS m0 r) f f3_ := (hfrp.tr hfrw.k).tr (hfr3.mono (fun q hq => mS_w hq)).k
        obtain ⟨T2, eT2⟩ : ∃ T2, T2 = (trM true rr d (gs i).2.1 (gs i).2.2.1 (K2, kp, ck, 0, 0)) := ⟨_, rfl⟩
        rw [← eT2] at hHd3
        obtain ⟨hm3, ⟨hv0, hv1, hv2, hv3, hv4, hv5, hv6⟩, ⟨hw0, hw1, hw2, hw3, hw4, hw5, hw6⟩⟩ := id hHd3
        have h210 : f3_ (r 0) = some (eI Γ 4 mon) := (hfr3 _ (wS_low h179 h180 hrI (by decide))).trans h180
        have h211 : f3_ (r 1) = some (eJ Γ 8 (fun i => b4 (gs i).2.1)) := (hfr3 _ (wS_low h179 h181 hrI (by decide))).trans h181
        have h212 : f3_ (r 2) = some (eI Γ 8 (fun i => nI (gs i).2.2.1)) := (hfr3 _ (wS_low h179 h182 hrI (by decide))).trans h182
        have h213 : f3_ (r 3) = some (eI Γ 8 (fun i => nI (gs i).1)) := (hfr3 _ (wS_low h179 h183 hrI (by decide))).trans h183
        have h214 : f3_ (r 4) = some (eI Γ 8 (fun i => (gs i).2.2.2.1)) := (hfr3 _ (wS_low h179 h184 hrI (by decide))).trans h184
        have h215 : f3_ (r 5) = some (eI Γ 8 (fun i => (gs i).2.2.2.2.1)) := (hfr3 _ (wS_low h179 h185 hrI (by decide))).trans h185
        have h216 : f3_ (r 6) = some (eI Γ 8 (fun i => (gs i).2.2.2.2.2.1)) := (hfr3 _ (wS_low h179 h186 hrI (by decide))).trans h186
        have h217 : f3_ (r 7) = some (eI Γ 8 (fun i => (gs i).2.2.2.2.2.2.1)) := (hfr3 _ (wS_low h179 h187 hrI (by decide))).trans h187
        have h218 : f3_ (r 8) = some (eI Γ 8 (fun i => (gs i).2.2.2.2.2.2.2.1)) := (hfr3 _ (wS_low h179 h188 hrI (by decide))).trans h188
        have h219 : f3_ (r 9) = some (eZ Γ 8 (fun i => bI (gs i).2.2.2.2.2.2.2.2)) := (hfr3 _ (wS_low h179 h189 hrI (by decide))).trans h189
        have h220 : f3_ (r 10) = some (eJ Γ 60 (fun i => b4 (ts i).2.1)) := (hfr3 _ (wS_low h179 h190 hrI (by decide))).trans h190
        have h221 : f3_ (r 11) = some (eI Γ 60 (fun i => nI (ts i).2.2.1)) := (hfr3 _ (wS_low h179 h191 hrI (by decide))).trans h191
        have h222 : f3_ (r 12) = some (eI Γ 60 (fun i => nI (ts i).1)) := (hfr3 _ (wS_low h179 h192 hrI (by decide))).trans h192
        have h223 : f3_ (r 13) = some (eI Γ 60 (fun i => (ts i).2.2.2)) := (hfr3 _ (wS_low h179 h193 hrI (by decide))).trans h193
        refine lv_istore (lv' := [(4, .int (nI (wp d (gs i).2.1 (gs i).2.2.1).1)), (3, .int ((mxI (trM true rr d (gs i).2.1 (gs i).2.2.1 (K, kp, ck, hih, 0)).2.2.2.2 1))), (0, .ref m0), (1, .int (nI i)), (2, .int (nI d))]) hx hb dX8_hint_98 hl (by decide) rfl (fun ls hl => ?_)
        refine lv_aload_n hx hb dX8_hint_100 rfl (lv_at hl 2 rfl) ?_
        refine lv_dup hx hb dX8_hint_101 rfl ?_
        refine gf_X8_218 hx hb hts hown hK hH hm3 rfl dX8_hint_102 ?_
        refine lv_iload hx hb dX8_hint_105 (lv_at hl 0 rfl) ?_
        refine lv_if_ge (tgt := 114) hx hb dX8_hint_107 (by decide) (fun _ => ?_) (fun c224 => absurd ((nI_pos' (by have := wp_le (d := d) (t := (gs i).2.1) (z := (gs i).2.2.1) (by omega); omega))) c224)
        refine lv_aload_n hx hb dX8_hint_114 rfl (lv_at hl 2 rfl) ?_
        refine gf_X8_190 hx hb hts hown hK hH hm3 rfl dX8_hint_115 ?_
        refine lv_iadd hx hb dX8_hint_118 ?_
        refine lv_topi (fun v225 ev225 => ?_)
        replace ev225 : v225 = (msh + T2.2.2.2.1) := ev225.trans (rfl)
        subst ev225
        refine pf_X8_218 hx hb hts hown hK hO hS hH hm3 rfl (Nat.le_of_ble_eq_true rfl) rfl dX8_hint_119 (fun H locs hH hS => ?_)
        obtain ⟨f226, ef226⟩ : ∃ zz_, zz_ = hm_up f3_ m0 (eM r 0 (nI np) (nI ng) (nI nt) (nI T2.2.1) (nI rr) T2.2.2.1 lim dz3 gd3 T2.2.2.2.1 T2.2.2.2.2 ((wp d (gs i).2.1 (gs i).2.2.1).2) ((msh + T2.2.2.2.1)) msm mso sp rf) := ⟨_, rfl⟩
        have hH : hm_H Γ f226 H := by rw [ef226]; exact hH
        have h227 : f226 m0 = some (eM r 0 (nI np) (nI ng) (nI nt) (nI T2.2.1) (nI rr) T2.2.2.1 lim dz3 gd3 T2.2.2.2.1 T2.2.2.2.2 ((wp d (gs i).2.1 (gs i).2.2.1).2) ((msh + T2.2.2.2.1)) msm mso sp rf) := by rw [ef226]; exact hm_us
        have h228 : f226 ((r 0)) = some (eI Γ 4 mon) := by rw [ef226]; exact (hm_un (hm_ne h210 hm3 (fun q => by cases q))).trans h210
        have h229 : f226 ((r 1)) = some (eJ Γ 8 (fun i => b4 (gs i).2.1)) := by rw [ef226]; exact (hm_un (hm_ne h211 hm3 (fun q => by cases q))).trans h211
        have h230 : f226 ((r 2)) = some (eI Γ 8 (fun i => nI (gs i).2.2.1)) := by rw [ef226]; exact (hm_un (hm_ne h212 hm3 (fun q => by cases q))).trans h212
        have h231 : f226 ((r 3)) = some (eI Γ 8 (fun i => nI (gs i).1)) := by rw [ef226]; exact (hm_un (hm_ne h213 hm3 (fun q => by cases q))).trans h213
        have h232 : f226 ((r 4)) = some (eI Γ 8 (fun i => (gs i).2.2.2.1)) := by rw [ef226]; exact (hm_un (hm_ne h214 hm3 (fun q => by cases q))).trans h214
        have h233 : f226 ((r 5)) = some (eI Γ 8 (fun i => (gs i).2.2.2.2.1)) := by rw [ef226]; exact (hm_un (hm_ne h215 hm3 (fun q => by cases q))).trans h215
        have h234 : f226 ((r 6)) = some (eI Γ 8 (fun i => (gs i).2.2.2.2.2.1)) := by rw [ef226]; exact (hm_un (hm_ne h216 hm3 (fun q => by cases q))).trans h216
        have h235 : f226 ((r 7)) = some (eI Γ 8 (fun i => (gs i).2.2.2.2.2.2.1)) := by rw [ef226]; exact (hm_un (hm_ne h217 hm3 (fun q => by cases q))).trans h217
        have h236 : f226 ((r 8)) = some (eI Γ 8 (fun i => (gs i).2.2.2.2.2.2.2.1)) := by rw [ef226]; exact (hm_un (hm_ne h218 hm3 (fun q => by cases q))).trans h218
        have h237 : f226 ((r 9)) = some (eZ Γ 8 (fun i => bI (gs i).2.2.2.2.2.2.2.2)) := by rw [ef226]; exact (hm_un (hm_ne h219 hm3 (fun q => by cases q))).trans h219
        have h238 : f226 ((r 10)) = some (eJ Γ 60 (fun i => b4 (ts i).2.1)) := by rw [ef226]; exact (hm_un (hm_ne h220 hm3 (fun q => by cases q))).trans h220
        have h239 : f226 ((r 11)) = some (eI Γ 60 (fun i => nI (ts i).2.2.1)) := by rw [ef226]; exact (hm_un (hm_ne h221 hm3 (fun q => by cases q))).trans h221
        have h240 : f226 ((r 12)) = some (eI Γ 60 (fun i => nI (ts i).1)) := by rw [ef226]; exact (hm_un (hm_ne h222 hm3 (fun q => by cases q))).trans h222
        have h241 : f226 ((r 13)) = some (eI Γ 60 (fun i => (ts i).2.2.2)) := by rw [ef226]; exact (hm_un (hm_ne h223 hm3 (fun q => by cases q))).trans h223
        have h242 : f226 ((r 14)) = some (eJ Γ 64 (fun j => (T2.1 j).1)) := by rw [ef226]; exact (hm_un (hm_ne hv0 hm3 (fun q => by cases q))).trans hv0
        have h243 : f226 ((r 15)) = some (eI Γ 64 (fun j => (T2.1 j).2.1)) := by rw [ef226]; exact (hm_un (hm_ne hv1 hm3 (fun q => by cases q))).trans hv1
        have h244 : f226 ((r 16)) = some (eI Γ 64 (fun j => (T2.1 j).2.2.1)) := by rw [ef226]; exact (hm_un (hm_ne hv2 hm3 (fun q => by cases q))).trans hv2
        have h245 : f226 ((r 17)) = some (eI Γ 64 (fun j => (T2.1 j).2.2.2.1)) := by rw [ef226]; exact (hm_un (hm_ne hv3 hm3 (fun q => by cases q))).trans hv3
        have h246 : f226 ((r 18)) = some (eI Γ 64 (fun j => (T2.1 j).2.2.2.2.1)) := by rw [ef226]; exact (hm_un (hm_ne hv4 hm3 (fun q => by cases q))).trans hv4
        have h247 : f226 ((r 19)) = some (eI Γ 64 (fun j => (T2.1 j).2.2.2.2.2.1)) := by rw [ef226]; exact (hm_un (hm_ne hv5 hm3 (fun q => by cases q))).trans hv5
        have h248 : f226 ((r 20)) = some (eI Γ 64 (fun j => (T2.1 j).2.2.2.2.2.2)) := by rw [ef226]; exact (hm_un (hm_ne hv6 hm3 (fun q => by cases q))).trans hv6
        have h249 : f226 ((r 21)) = some (eJ Γ 6 pb3) := by rw [ef226]; exact (hm_un (hm_ne hw0 hm3 (fun q => by cases q))).trans hw0
        have h250 : f226 ((r 22)) = some (eI Γ 6 pz3) := by rw [ef226]; exact (hm_un (hm_ne hw1 hm3 (fun q => by cases q))).trans hw1
        have h251 : f226 ((r 23)) = some (eI Γ 6 pd3) := by rw [ef226]; exact (hm_un (hm_ne hw2 hm3 (fun q => by cases q))).trans hw2
        have h252 : f226 ((r 24)) = some (eI Γ 6 pn3) := by rw [ef226]; exact (hm_un (hm_ne hw3 hm3 (fun q => by cases q))).trans hw3
        have h253 : f226 ((r 25)) = some (eI Γ 6 pe3) := by rw [ef226]; exact (hm_un (hm_ne hw4 hm3 (fun q => by cases q))).trans hw4
        have h254 : f226 ((r 26)) = some (eI Γ 6 ph3) := by rw [ef226]; exact (hm_un (hm_ne hw5 hm3 (fun q => by cases q))).trans hw5
        have h255 : f226 ((r 27)) = some (eI Γ 6 pg3) := by rw [ef226]; exact (hm_un (hm_ne hw6 hm3 (fun q => by cases q))).trans hw6
        refine lv_aload_n hx hb dX8_hint_122 rfl (lv_at hl 2 rfl) ?_
        refine lv_dup hx hb dX8_hint_123 rfl ?_
        refine gf_X8_221 hx hb hts hown hK hH h227 rfl dX8_hint_124 ?_
        refine lv_aload_n hx hb dX8_hint_127 rfl (lv_at hl 2 rfl) ?_
        refine gf_X8_193 hx hb hts hown hK hH h227 rfl dX8_hint_128 ?_
        refine lv_iadd hx hb dX8_hint_131 ?_
        refine lv_topi (fun v256 ev256 => ?_)
        replace ev256 : v256 = (msm + T2.2.2.2.2) := ev256.trans (rfl)
        subst ev256
        refine pf_X8_221 hx hb hts hown hK hO hS hH h227 rfl (Nat.le_of_ble_eq_true rfl) rfl dX8_hint_132 (fun H locs hH hS => ?_)
        obtain ⟨f257, ef257⟩ : ∃ zz_, zz_ = hm_up f226 m0 (eM r 0 (nI np) (nI ng) (nI nt) (nI T2.2.1) (nI rr) T2.2.2.1 lim dz3 gd3 T2.2.2.2.1 T2.2.2.2.2 ((wp d (gs i).2.1 (gs i).2.2.1).2) ((msh + T2.2.2.2.1)) ((msm + T2.2.2.2.2)) mso sp rf) := ⟨_, rfl⟩
        have hH : hm_H Γ f257 H := by rw [ef257]; exact hH
        have h258 : f257 m0 = some (eM r 0 (nI np) (nI ng) (nI nt) (nI T2.2.1) (nI rr) T2.2.2.1 lim dz3 gd3 T2.2.2.2.1 T2.2.2.2.2 ((wp d (gs i).2.1 (gs i).2.2.1).2) ((msh + T2.2.2.2.1)) ((msm + T2.2.2.2.2)) mso sp rf) := by rw [ef257]; exact hm_us
        have h259 : f257 ((r 0)) = some (eI Γ 4 mon) := by rw [ef257]; exact (hm_un (hm_ne h228 h227 (fun q => by cases q))).trans h228
        have h260 : f257 ((r 1)) = some (eJ Γ 8 (fun i => b4 (gs i).2.1)) := by rw [ef257]; exact (hm_un (hm_ne h229 h227 (fun q => by cases q))).trans h229
        have h261 : f257 ((r 2)) = some (eI Γ 8 (fun i => nI (gs i).2.2.1)) := by rw [ef257]; exact (hm_un (hm_ne h230 h227 (fun q => by cases q))).trans h230
        have h262 : f257 ((r 3)) = some (eI Γ 8 (fun i => nI (gs i).1)) := by rw [ef257]; exact (hm_un (hm_ne h231 h227 (fun q => by cases q))).trans h231
        have h263 : f257 ((r 4)) = some (eI Γ 8 (fun i => (gs i).2.2.2.1)) := by rw [ef257]; exact (hm_un (hm_ne h232 h227 (fun q => by cases q))).trans h232
        have h264 : f257 ((r 5)) = some (eI Γ 8 (fun i => (gs i).2.2.2.2.1)) := by rw [ef257]; exact (hm_un (hm_ne h233 h227 (fun q => by cases q))).trans h233
        have h265 : f257 ((r 6)) = some (eI Γ 8 (fun i => (gs i).2.2.2.2.2.1)) := by rw [ef257]; exact (hm_un (hm_ne h234 h227 (fun q => by cases q))).trans h234
        have h266 : f257 ((r 7)) = some (eI Γ 8 (fun i => (gs i).2.2.2.2.2.2.1)) := by rw [ef257]; exact (hm_un (hm_ne h235 h227 (fun q => by cases q))).trans h235
        have h267 : f257 ((r 8)) = some (eI Γ 8 (fun i => (gs i).2.2.2.2.2.2.2.1)) := by rw [ef257]; exact (hm_un (hm_ne h236 h227 (fun q => by cases q))).trans h236
        have h268 : f257 ((r 9)) = some (eZ Γ 8 (fun i => bI (gs i).2.2.2.2.2.2.2.2)) := by rw [ef257]; exact (hm_un (hm_ne h237 h227 (fun q => by cases q))).trans h237
        have h269 : f257 ((r 10)) = some (eJ Γ 60 (fun i => b4 (ts i).2.1)) := by rw [ef257]; exact (hm_un (hm_ne h238 h227 (fun q => by cases q))).trans h238
        have h270 : f257 ((r 11)) = some (eI Γ 60 (fun i => nI (ts i).2.2.1)) := by rw [ef257]; exact (hm_un (hm_ne h239 h227 (fun q => by cases q))).trans h239
        have h271 : f257 ((r 12)) = some (eI Γ 60 (fun i => nI (ts i).1)) := by rw [ef257]; exact (hm_un (hm_ne h240 h227 (fun q => by cases q))).trans h240
        have h272 : f257 ((r 13)) = some (eI Γ 60 (fun i => (ts i).2.2.2)) := by rw [ef257]; exact (hm_un (hm_ne h241 h227 (fun q => by cases q))).trans h241
        have h273 : f257 ((r 14)) = some (eJ Γ 64 (fun j => (T2.1 j).1)) := by rw [ef257]; exact (hm_un (hm_ne h242 h227 (fun q => by cases q))).trans h242
        have h274 : f257 ((r 15)) = some (eI Γ 64 (fun j => (T2.1 j).2.1)) := by rw [ef257]; exact (hm_un (hm_ne h243 h227 (fun q => by cases q))).trans h243
        have h275 : f257 ((r 16)) = some (eI Γ 64 (fun j => (T2.1 j).2.2.1)) := by rw [ef257]; exact (hm_un (hm_ne h244 h227 (fun q => by cases q))).trans h244
        have h276 : f257 ((r 17)) = some (eI Γ 64 (fun j => (T2.1 j).2.2.2.1)) := by rw [ef257]; exact (hm_un (hm_ne h245 h227 (fun q => by cases q))).trans h245
        have h277 : f257 ((r 18)) = some (eI Γ 64 (fun j => (T2.1 j).2.2.2.2.1)) := by rw [ef257]; exact (hm_un (hm_ne h246 h227 (fun q => by cases q))).trans h246
        have h278 : f257 ((r 19)) = some (eI Γ 64 (fun j => (T2.1 j).2.2.2.2.2.1)) := by rw [ef257]; exact (hm_un (hm_ne h247 h227 (fun q => by cases q))).trans h247
        have h279 : f257 ((r 20)) = some (eI Γ 64 (fun j => (T2.1 j).2.2.2.2.2.2)) := by rw [ef257]; exact (hm_un (hm_ne h248 h227 (fun q => by cases q))).trans h248
        have h280 : f257 ((r 21)) = some (eJ Γ 6 pb3) := by rw [ef257]; exact (hm_un (hm_ne h249 h227 (fun q => by cases q))).trans h249
        have h281 : f257 ((r 22)) = some (eI Γ 6 pz3) := by rw [ef257]; exact (hm_un (hm_ne h250 h227 (fun q => by cases q))).trans h250
        have h282 : f257 ((r 23)) = some (eI Γ 6 pd3) := by rw [ef257]; exact (hm_un (hm_ne h251 h227 (fun q => by cases q))).trans h251
        have h283 : f257 ((r 24)) = some (eI Γ 6 pn3) := by rw [ef257]; exact (hm_un (hm_ne h252 h227 (fun q => by cases q))).trans h252
        have h284 : f257 ((r 25)) = some (eI Γ 6 pe3) := by rw [ef257]; exact (hm_un (hm_ne h253 h227 (fun q => by cases q))).trans h253
        have h285 : f257 ((r 26)) = some (eI Γ 6 ph3) := by rw [ef257]; exact (hm_un (hm_ne h254 h227 (fun q => by cases q))).trans h254
        have h286 : f257 ((r 27)) = some (eI Γ 6 pg3) := by rw [ef257]; exact (hm_un (hm_ne h255 h227 (fun q => by cases q))).trans h255
        refine lv_aload_n hx hb dX8_hint_135 rfl (lv_at hl 2 rfl) ?_
        refine lv_dup hx hb dX8_hint_136 rfl ?_
        refine gf_X8_224 hx hb hts hown hK hH h258 rfl dX8_hint_137 ?_
        refine lv_iconst (v := 1) hx hb dX8_hint_140 (by decide) ?_
        refine lv_iadd hx hb dX8_hint_141 ?_
        refine lv_topi (fun v287 ev287 => ?_)
        replace ev287 : v287 = (mso + 1) := ev287.trans (rfl)
        subst ev287
        refine pf_X8_224 hx hb hts hown hK hO hS hH h258 rfl (Nat.le_of_ble_eq_true rfl) rfl dX8_hint_142 (fun H locs hH hS => ?_)
        obtain ⟨f288, ef288⟩ : ∃ zz_, zz_ = hm_up f257 m0 (eM r 0 (nI np) (nI ng) (nI nt) (nI T2.2.1) (nI rr) T2.2.2.1 lim dz3 gd3 T2.2.2.2.1 T2.2.2.2.2 ((wp d (gs i).2.1 (gs i).2.2.1).2) ((msh + T2.2.2.2.1)) ((msm + T2.2.2.2.2)) ((mso + 1)) sp rf) := ⟨_, rfl⟩
        have hH : hm_H Γ f288 H := by rw [ef288]; exact hH
        have h289 : f288 m0 = some (eM r 0 (nI np) (nI ng) (nI nt) (nI T2.2.1) (nI rr) T2.2.2.1 lim dz3 gd3 T2.2.2.2.1 T2.2.2.2.2 ((wp d (gs i).2.1 (gs i).2.2.1).2) ((msh + T2.2.2.2.1)) ((msm + T2.2.2.2.2)) ((mso + 1)) sp rf) := by rw [ef288]; exact hm_us
        have h290 : f288 ((r 0)) = some (eI Γ 4 mon) := by rw [ef288]; exact (hm_un (hm_ne h259 h258 (fun q => by cases q))).trans h259
        have h291 : f288 ((r 1)) = some (eJ Γ 8 (fun i => b4 (gs i).2.1)) := by rw [ef288]; exact (hm_un (hm_ne h260 h258 (fun q => by cases q))).trans h260
        have h292 : f288 ((r 2)) = some (eI Γ 8 (fun i => nI (gs i).2.2.1)) := by rw [ef288]; exact (hm_un (hm_ne h261 h258 (fun q => by cases q))).trans h261
        have h293 : f288 ((r 3)) = some (eI Γ 8 (fun i => nI (gs i).1)) := by rw [ef288]; exact (hm_un (hm_ne h262 h258 (fun q => by cases q))).trans h262
        have h294 : f288 ((r 4)) = some (eI Γ 8 (fun i => (gs i).2.2.2.1)) := by rw [ef288]; exact (hm_un (hm_ne h263 h258 (fun q => by cases q))).trans h263
        have h295 : f288 ((r 5)) = some (eI Γ 8 (fun i => (gs i).2.2.2.2.1)) := by rw [ef288]; exact (hm_un (hm_ne h264 h258 (fun q => by cases q))).trans h264
        have h296 : f288 ((r 6)) = some (eI Γ 8 (fun i => (gs i).2.2.2.2.2.1)) := by rw [ef288]; exact (hm_un (hm_ne h265 h258 (fun q => by cases q))).trans h265
        have h297 : f288 ((r 7)) = some (eI Γ 8 (fun i => (gs i).2.2.2.2.2.2.1)) := by rw [ef288]; exact (hm_un (hm_ne h266 h258 (fun q => by cases q))).trans h266
        have h298 : f288 ((r 8)) = some (eI Γ 8 (fun i => (gs i).2.2.2.2.2.2.2.1)) := by rw [ef288]; exact (hm_un (hm_ne h267 h258 (fun q => by cases q))).trans h267
        have h299 : f288 ((r 9)) = some (eZ Γ 8 (fun i => bI (gs i).2.2.2.2.2.2.2.2)) := by rw [ef288]; exact (hm_un (hm_ne h268 h258 (fun q => by cases q))).trans h268
        have h300 : f288 ((r 10)) = some (eJ Γ 60 (fun i => b4 (ts i).2.1)) := by rw [ef288]; exact (hm_un (hm_ne h269 h258 (fun q => by cases q))).trans h269
        have h301 : f288 ((r 11)) = some (eI Γ 60 (fun i => nI (ts i).2.2.1)) := by rw [ef288]; exact (hm_un (hm_ne h270 h258 (fun q => by cases q))).trans h270
        have h302 : f288 ((r 12)) = some (eI Γ 60 (fun i => nI (ts i).1)) := by rw [ef288]; exact (hm_un (hm_ne h271 h258 (fun q => by cases q))).trans h271
        have h303 : f288 ((r 13)) = some (eI Γ 60 (fun i => (ts i).2.2.2)) := by rw [ef288]; exact (hm_un (hm_ne h272 h258 (fun q => by cases q))).trans h272
        have h304 : f288 ((r 14)) = some (eJ Γ 64 (fun j => (T2.1 j).1)) := by rw [ef288]; exact (hm_un (hm_ne h273 h258 (fun q => by cases q))).trans h273
        have h305 : f288 ((r 15)) = some (eI Γ 64 (fun j => (T2.1 j).2.1)) := by rw [ef288]; exact (hm_un (hm_ne h274 h258 (fun q => by cases q))).trans h274
        have h306 : f288 ((r 16)) = some (eI Γ 64 (fun j => (T2.1 j).2.2.1)) := by rw [ef288]; exact (hm_un (hm_ne h275 h258 (fun q => by cases q))).trans h275
        have h307 : f288 ((r 17)) = some (eI Γ 64 (fun j => (T2.1 j).2.2.2.1)) := by rw [ef288]; exact (hm_un (hm_ne h276 h258 (fun q => by cases q))).trans h276
        have h308 : f288 ((r 18)) = some (eI Γ 64 (fun j => (T2.1 j).2.2.2.2.1)) := by rw [ef288]; exact (hm_un (hm_ne h277 h258 (fun q => by cases q))).trans h277
        have h309 : f288 ((r 19)) = some (eI Γ 64 (fun j => (T2.1 j).2.2.2.2.2.1)) := by rw [ef288]; exact (hm_un (hm_ne h278 h258 (fun q => by cases q))).trans h278
        have h310 : f288 ((r 20)) = some (eI Γ 64 (fun j => (T2.1 j).2.2.2.2.2.2)) := by rw [ef288]; exact (hm_un (hm_ne h279 h258 (fun q => by cases q))).trans h279
        have h311 : f288 ((r 21)) = some (eJ Γ 6 pb3) := by rw [ef288]; exact (hm_un (hm_ne h280 h258 (fun q => by cases q))).trans h280
        have h312 : f288 ((r 22)) = some (eI Γ 6 pz3) := by rw [ef288]; exact (hm_un (hm_ne h281 h258 (fun q => by cases q))).trans h281
        have h313 : f288 ((r 23)) = some (eI Γ 6 pd3) := by rw [ef288]; exact (hm_un (hm_ne h282 h258 (fun q => by cases q))).trans h282
        have h314 : f288 ((r 24)) = some (eI Γ 6 pn3) := by rw [ef288]; exact (hm_un (hm_ne h283 h258 (fun q => by cases q))).trans h283
        have h315 : f288 ((r 25)) = some (eI Γ 6 pe3) := by rw [ef288]; exact (hm_un (hm_ne h284 h258 (fun q => by cases q))).trans h284
        have h316 : f288 ((r 26)) = some (eI Γ 6 ph3) := by rw [ef288]; exact (hm_un (hm_ne h285 h258 (fun q => by cases q))).trans h285
        have h317 : f288 ((r 27)) = some (eI Γ 6 pg3) := by rw [ef288]; exact (hm_un (hm_ne h286 h258 (fun q => by cases q))).trans h286
        refine lv_aload_n hx hb dX8_hint_145 rfl (lv_at hl 2 rfl) ?_
        refine lv_dup hx hb dX8_hint_146 rfl ?_
        refine gf_X8_227 hx hb hts hown hK hH h289 rfl dX8_hint_147 ?_
        refine lv_iload_n hx hb dX8_hint_150 rfl (lv_at hl 1 rfl) ?_
        refine lv_i2l hx hb dX8_hint_151 rfl ?_
        refine lv_topl (fun v318 ev318 => ?_)
        replace ev318 : v318 = ((mxI (trM true rr d (gs i).2.1 (gs i).2.2.1 (K, kp, ck, hih, 0)).2.2.2.2 1).toInt64) := ev318.trans (rfl)
        subst ev318
        refine lv_ladd hx hb dX8_hint_152 ?_
        refine lv_topl (fun v319 ev319 => ?_)
        replace ev319 : v319 = (sp + (mxI (trM true rr d (gs i).2.1 (gs i).2.2.1 (K, kp, ck, hih, 0)).2.2.2.2 1).toInt64) := ev319.trans (rfl)
        subst ev319
        refine pf_X8_227 hx hb hts hown hK hO hS hH h289 rfl (Nat.le_of_ble_eq_true rfl) rfl dX8_hint_153 (fun H locs hH hS => ?_)
        obtain ⟨f320, ef320⟩ : ∃ zz_, zz_ = hm_up f288 m0 (eM r 0 (nI np) (nI ng) (nI nt) (nI T2.2.1) (nI rr) T2.2.2.1 lim dz3 gd3 T2.2.2.2.1 T2.2.2.2.2 ((wp d (gs i).2.1 (gs i).2.2.1).2) ((msh + T2.2.2.2.1)) ((msm + T2.2.2.2.2)) ((mso + 1)) ((sp + (mxI (trM true rr d (gs i).2.1 (gs i).2.2.1 (K, kp, ck, hih, 0)).2.2.2.2 1).toInt64)) rf) := ⟨_, rfl⟩
        have hH : hm_H Γ f320 H := by rw [ef320]; exact hH
        have h321 : f320 m0 = some (eM r 0 (nI np) (nI ng) (nI nt) (nI T2.2.1) (nI rr) T2.2.2.1 lim dz3 gd3 T2.2.2.2.1 T2.2.2.2.2 ((wp d (gs i).2.1 (gs i).2.2.1).2) ((msh + T2.2.2.2.1)) ((msm + T2.2.2.2.2)) ((mso + 1)) ((sp + (mxI (trM true rr d (gs i).2.1 (gs i).2.2.1 (K, kp, ck, hih, 0)).2.2.2.2 1).toInt64)) rf) := by rw [ef320]; exact hm_us
        have h322 : f320 ((r 0)) = some (eI Γ 4 mon) := by rw [ef320]; exact (hm_un (hm_ne h290 h289 (fun q => by cases q))).trans h290
        have h323 : f320 ((r 1)) = some (eJ Γ 8 (fun i => b4 (gs i).2.1)) := by rw [ef320]; exact (hm_un (hm_ne h291 h289 (fun q => by cases q))).trans h291
        have h324 : f320 ((r 2)) = some (eI Γ 8 (fun i => nI (gs i).2.2.1)) := by rw [ef320]; exact (hm_un (hm_ne h292 h289 (fun q => by cases q))).trans h292
        have h325 : f320 ((r 3)) = some (eI Γ 8 (fun i => nI (gs i).1)) := by rw [ef320]; exact (hm_un (hm_ne h293 h289 (fun q => by cases q))).trans h293
        have h326 : f320 ((r 4)) = some (eI Γ 8 (fun i => (gs i).2.2.2.1)) := by rw [ef320]; exact (hm_un (hm_ne h294 h289 (fun q => by cases q))).trans h294
        have h327 : f320 ((r 5)) = some (eI Γ 8 (fun i => (gs i).2.2.2.2.1)) := by rw [ef320]; exact (hm_un (hm_ne h295 h289 (fun q => by cases q))).trans h295
        have h328 : f320 ((r 6)) = some (eI Γ 8 (fun i => (gs i).2.2.2.2.2.1)) := by rw [ef320]; exact (hm_un (hm_ne h296 h289 (fun q => by cases q))).trans h296
        have h329 : f320 ((r 7)) = some (eI Γ 8 (fun i => (gs i).2.2.2.2.2.2.1)) := by rw [ef320]; exact (hm_un (hm_ne h297 h289 (fun q => by cases q))).trans h297
        have h330 : f320 ((r 8)) = some (eI Γ 8 (fun i => (gs i).2.2.2.2.2.2.2.1)) := by rw [ef320]; exact (hm_un (hm_ne h298 h289 (fun q => by cases q))).trans h298
        have h331 : f320 ((r 9)) = some (eZ Γ 8 (fun i => bI (gs i).2.2.2.2.2.2.2.2)) := by rw [ef320]; exact (hm_un (hm_ne h299 h289 (fun q => by cases q))).trans h299
        have h332 : f320 ((r 10)) = some (eJ Γ 60 (fun i => b4 (ts i).2.1)) := by rw [ef320]; exact (hm_un (hm_ne h300 h289 (fun q => by cases q))).trans h300
        have h333 : f320 ((r 11)) = some (eI Γ 60 (fun i => nI (ts i).2.2.1)) := by rw [ef320]; exact (hm_un (hm_ne h301 h289 (fun q => by cases q))).trans h301
        have h334 : f320 ((r 12)) = some (eI Γ 60 (fun i => nI (ts i).1)) := by rw [ef320]; exact (hm_un (hm_ne h302 h289 (fun q => by cases q))).trans h302
        have h335 : f320 ((r 13)) = some (eI Γ 60 (fun i => (ts i).2.2.2)) := by rw [ef320]; exact (hm_un (hm_ne h303 h289 (fun q => by cases q))).trans h303
        have h336 : f320 ((r 14)) = some (eJ Γ 64 (fun j => (T2.1 j).1)) := by rw [ef320]; exact (hm_un (hm_ne h304 h289 (fun q => by cases q))).trans h304
        have h337 : f320 ((r 15)) = some (eI Γ 64 (fun j => (T2.1 j).2.1)) := by rw [ef320]; exact (hm_un (hm_ne h305 h289 (fun q => by cases q))).trans h305
        have h338 : f320 ((r 16)) = some (eI Γ 64 (fun j => (T2.1 j).2.2.1)) := by rw [ef320]; exact (hm_un (hm_ne h306 h289 (fun q => by cases q))).trans h306
        have h339 : f320 ((r 17)) = some (eI Γ 64 (fun j => (T2.1 j).2.2.2.1)) := by rw [ef320]; exact (hm_un (hm_ne h307 h289 (fun q => by cases q))).trans h307
        have h340 : f320 ((r 18)) = some (eI Γ 64 (fun j => (T2.1 j).2.2.2.2.1)) := by rw [ef320]; exact (hm_un (hm_ne h308 h289 (fun q => by cases q))).trans h308
        have h341 : f320 ((r 19)) = some (eI Γ 64 (fun j => (T2.1 j).2.2.2.2.2.1)) := by rw [ef320]; exact (hm_un (hm_ne h309 h289 (fun q => by cases q))).trans h309
        have h342 : f320 ((r 20)) = some (eI Γ 64 (fun j => (T2.1 j).2.2.2.2.2.2)) := by rw [ef320]; exact (hm_un (hm_ne h310 h289 (fun q => by cases q))).trans h310
        have h343 : f320 ((r 21)) = some (eJ Γ 6 pb3) := by rw [ef320]; exact (hm_un (hm_ne h311 h289 (fun q => by cases q))).trans h311
        have h344 : f320 ((r 22)) = some (eI Γ 6 pz3) := by rw [ef320]; exact (hm_un (hm_ne h312 h289 (fun q => by cases q))).trans h312
        have h345 : f320 ((r 23)) = some (eI Γ 6 pd3) := by rw [ef320]; exact (hm_un (hm_ne h313 h289 (fun q => by cases q))).trans h313
        have h346 : f320 ((r 24)) = some (eI Γ 6 pn3) := by rw [ef320]; exact (hm_un (hm_ne h314 h289 (fun q => by cases q))).trans h314
        have h347 : f320 ((r 25)) = some (eI Γ 6 pe3) := by rw [ef320]; exact (hm_un (hm_ne h315 h289 (fun q => by cases q))).trans h315
        have h348 : f320 ((r 26)) = some (eI Γ 6 ph3) := by rw [ef320]; exact (hm_un (hm_ne h316 h289 (fun q => by cases q))).trans h316
        have h349 : f320 ((r 27)) = some (eI Γ 6 pg3) := by rw [ef320]; exact (hm_un (hm_ne h317 h289 (fun q => by cases q))).trans h317
        refine lv_aload_n hx hb dX8_hint_156 rfl (lv_at hl 2 rfl) ?_
        refine gf_X8_7 hx hb hts hown hK hH h321 rfl dX8_hint_157 ?_
        refine lv_aload_n hx hb dX8_hint_160 rfl (lv_at hl 2 rfl) ?_
        refine gf_X8_20 hx hb hts hown hK hH h321 rfl dX8_hint_161 ?_
        refine lv_iload_n hx hb dX8_hint_164 rfl (lv_at hl 3 rfl) ?_
        refine hm_iald hx hb hK hH h325 (vp_in_nI hi8 (by decide)) dX8_hint_165 ?_
        refine lv_topi (fun v350 ev350 => ?_)
        replace ev350 : v350 = nI (gs i).1 := ev350.trans (by show nI (gs (nI i).toNatClampNeg).1 = _; rw [nI_clamp (n := i) (by omega)])
        subst ev350
        refine lv_dup2_11 hx hb dX8_hint_166 rfl rfl ?_
        refine hm_iald hx hb hK hH h322 (vp_in_nI (show (gs i).1 < 4 by omega) (by decide)) dX8_hint_167 ?_
        refine lv_topi (fun v351 ev351 => ?_)
        replace ev351 : v351 = (mon (gs i).1) := ev351.trans (by show mon (nI (gs i).1).toNatClampNeg = _; rw [nI_clamp (by omega)])
        subst ev351
        refine lv_iload_n hx hb dX8_hint_168 rfl (lv_at hl 1 rfl) ?_
        refine lv_isub hx hb dX8_hint_169 ?_
        refine lv_topi (fun v352 ev352 => ?_)
        replace ev352 : v352 = (mon (gs i).1 - (mxI (trM true rr d (gs i).2.1 (gs i).2.2.1 (K, kp, ck, hih, 0)).2.2.2.2 1)) := ev352.trans (rfl)
        subst ev352
        refine hm_iast hx hb hK hO hS hH h322 (vp_in_nI (show (gs i).1 < 4 by omega) (by decide)) dX8_hint_170 (fun H locs hH hS => ?_)
        rw [nI_clamp (n := (gs i).1) (by omega)] at hH
        obtain ⟨f353, ef353⟩ : ∃ zz_, zz_ = hm_up f320 ((r 0)) (eI Γ 4 (upd mon ((gs i).1) ((mon (gs i).1 - (mxI (trM true rr d (gs i).2.1 (gs i).2.2.1 (K, kp, ck, hih, 0)).2.2.2.2 1))))) := ⟨_, rfl⟩
        have hH : hm_H Γ f353 H := by rw [ef353]; exact hH
        have h354 : f353 ((r 0)) = some (eI Γ 4 (upd mon ((gs i).1) ((mon (gs i).1 - (mxI (trM true rr d (gs i).2.1 (gs i).2.2.1 (K, kp, ck, hih, 0)).2.2.2.2 1))))) := by rw [ef353]; exact hm_us
        have h355 : f353 m0 = some (eM r 0 (nI np) (nI ng) (nI nt) (nI T2.2.1) (nI rr) T2.2.2.1 lim dz3 gd3 T2.2.2.2.1 T2.2.2.2.2 ((wp d (gs i).2.1 (gs i).2.2.1).2) ((msh + T2.2.2.2.1)) ((msm + T2.2.2.2.2)) ((mso + 1)) ((sp + (mxI (trM true rr d (gs i).2.1 (gs i).2.2.1 (K, kp, ck, hih, 0)).2.2.2.2 1).toInt64)) rf) := by rw [ef353]; exact (hm_un (hm_ne h321 h322 (fun q => by cases q))).trans h321
        have h356 : f353 ((r 1)) = some (eJ Γ 8 (fun i => b4 (gs i).2.1)) := by rw [ef353]; exact (hm_un (hrI 1 0 (by decide) (by decide) (by decide))).trans h323
        have h357 : f353 ((r 2)) = some (eI Γ 8 (fun i => nI (gs i).2.2.1)) := by rw [ef353]; exact (hm_un (hrI 2 0 (by decide) (by decide) (by decide))).trans h324
        have h358 : f353 ((r 3)) = some (eI Γ 8 (fun i => nI (gs i).1)) := by rw [ef353]; exact (hm_un (hrI 3 0 (by decide) (by decide) (by decide))).trans h325
        have h359 : f353 ((r 4)) = some (eI Γ 8 (fun i => (gs i).2.2.2.1)) := by rw [ef353]; exact (hm_un (hrI 4 0 (by decide) (by decide) (by decide))).trans h326
        have h360 : f353 ((r 5)) = some (eI Γ 8 (fun i => (gs i).2.2.2.2.1)) := by rw [ef353]; exact (hm_un (hrI 5 0 (by decide) (by decide) (by decide))).trans h327
        have h361 : f353 ((r 6)) = some (eI Γ 8 (fun i => (gs i).2.2.2.2.2.1)) := by rw [ef353]; exact (hm_un (hrI 6 0 (by decide) (by decide) (by decide))).trans h328
        have h362 : f353 ((r 7)) = some (eI Γ 8 (fun i => (gs i).2.2.2.2.2.2.1)) := by rw [ef353]; exact (hm_un (hrI 7 0 (by decide) (by decide) (by decide))).trans h329
        have h363 : f353 ((r 8)) = some (eI Γ 8 (fun i => (gs i).2.2.2.2.2.2.2.1)) := by rw [ef353]; exact (hm_un (hrI 8 0 (by decide) (by decide) (by decide))).trans h330
        have h364 : f353 ((r 9)) = some (eZ Γ 8 (fun i => bI (gs i).2.2.2.2.2.2.2.2)) := by rw [ef353]; exact (hm_un (hrI 9 0 (by decide) (by decide) (by decide))).trans h331
        have h365 : f353 ((r 10)) = some (eJ Γ 60 (fun i => b4 (ts i).2.1)) := by rw [ef353]; exact (hm_un (hrI 10 0 (by decide) (by decide) (by decide))).trans h332
        have h366 : f353 ((r 11)) = some (eI Γ 60 (fun i => nI (ts i).2.2.1)) := by rw [ef353]; exact (hm_un (hrI 11 0 (by decide) (by decide) (by decide))).trans h333
        have h367 : f353 ((r 12)) = some (eI Γ 60 (fun i => nI (ts i).1)) := by rw [ef353]; exact (hm_un (hrI 12 0 (by decide) (by decide) (by decide))).trans h334
        have h368 : f353 ((r 13)) = some (eI Γ 60 (fun i => (ts i).2.2.2)) := by rw [ef353]; exact (hm_un (hrI 13 0 (by decide) (by decide) (by decide))).trans h335
        have h369 : f353 ((r 14)) = some (eJ Γ 64 (fun j => (T2.1 j).1)) := by rw [ef353]; exact (hm_un (hrI 14 0 (by decide) (by decide) (by decide))).trans h336
        have h370 : f353 ((r 15)) = some (eI Γ 64 (fun j => (T2.1 j).2.1)) := by rw [ef353]; exact (hm_un (hrI 15 0 (by decide) (by decide) (by decide))).trans h337
        have h371 : f353 ((r 16)) = some (eI Γ 64 (fun j => (T2.1 j).2.2.1)) := by rw [ef353]; exact (hm_un (hrI 16 0 (by decide) (by decide) (by decide))).trans h338
        have h372 : f353 ((r 17)) = some (eI Γ 64 (fun j => (T2.1 j).2.2.2.1)) := by rw [ef353]; exact (hm_un (hrI 17 0 (by decide) (by decide) (by decide))).trans h339
        have h373 : f353 ((r 18)) = some (eI Γ 64 (fun j => (T2.1 j).2.2.2.2.1)) := by rw [ef353]; exact (hm_un (hrI 18 0 (by decide) (by decide) (by decide))).trans h340
        have h374 : f353 ((r 19)) = some (eI Γ 64 (fun j => (T2.1 j).2.2.2.2.2.1)) := by rw [ef353]; exact (hm_un (hrI 19 0 (by decide) (by decide) (by decide))).trans h341
        have h375 : f353 ((r 20)) = some (eI Γ 64 (fun j => (T2.1 j).2.2.2.2.2.2)) := by rw [ef353]; exact (hm_un (hrI 20 0 (by decide) (by decide) (by decide))).trans h342
        have h376 : f353 ((r 21)) = some (eJ Γ 6 pb3) := by rw [ef353]; exact (hm_un (hrI 21 0 (by decide) (by decide) (by decide))).trans h343
        have h377 : f353 ((r 22)) = some (eI Γ 6 pz3) := by rw [ef353]; exact (hm_un (hrI 22 0 (by decide) (by decide) (by decide))).trans h344
        have h378 : f353 ((r 23)) = some (eI Γ 6 pd3) := by rw [ef353]; exact (hm_un (hrI 23 0 (by decide) (by decide) (by decide))).trans h345
        have h379 : f353 ((r 24)) = some (eI Γ 6 pn3) := by rw [ef353]; exact (hm_un (hrI 24 0 (by decide) (by decide) (by decide))).trans h346
        have h380 : f353 ((r 25)) = some (eI Γ 6 pe3) := by rw [ef353]; exact (hm_un (hrI 25 0 (by decide) (by decide) (by decide))).trans h347
        have h381 : f353 ((r 26)) = some (eI Γ 6 ph3) := by rw [ef353]; exact (hm_un (hrI 26 0 (by decide) (by decide) (by decide))).trans h348
        have h382 : f353 ((r 27)) = some (eI Γ 6 pg3) := by rw [ef353]; exact (hm_un (hrI 27 0 (by decide) (by decide) (by decide))).trans h349
        refine lv_aload_n hx hb dX8_hint_171 rfl (lv_at hl 2 rfl) ?_
        refine gf_X8_35 hx hb hts hown hK hH h355 rfl dX8_hint_172 ?_
        refine lv_iload_n hx hb dX8_hint_175 rfl (lv_at hl 3 rfl) ?_
        refine lv_dup2_11 hx hb dX8_hint_176 rfl rfl ?_
        refine hm_iald hx hb hK hH h363 (vp_in_nI hi8 (by decide)) dX8_hint_177 ?_
        refine lv_topi (fun v383 ev383 => ?_)
        replace ev383 : v383 = (gs i).2.2.2.2.2.2.2.1 := ev383.trans (by show (gs (nI i).toNatClampNeg).2.2.2.2.2.2.2.1 = _; rw [nI_clamp (n := i) (by omega)])
        subst ev383
        refine lv_iload_n hx hb dX8_hint_178 rfl (lv_at hl 1 rfl) ?_
        refine lv_iadd hx hb dX8_hint_179 ?_
        refine lv_topi (fun v384 ev384 => ?_)
        replace ev384 : v384 = ((gs i).2.2.2.2.2.2.2.1 + (mxI (trM true rr d (gs i).2.1 (gs i).2.2.1 (K, kp, ck, hih, 0)).2.2.2.2 1)) := ev384.trans (rfl)
        subst ev384
        refine hm_iast hx hb hK hO hS hH h363 (vp_in_nI hi8 (by decide)) dX8_hint_180 (fun H locs hH hS => ?_)
        rw [nI_clamp (n := i) (by omega)] at hH
        obtain ⟨f385, ef385⟩ : ∃ zz_, zz_ = hm_up f353 ((r 8)) (eI Γ 8 (upd (fun i => (gs i).2.2.2.2.2.2.2.1) i (((gs i).2.2.2.2.2.2.2.1 + (mxI (trM true rr d (gs i).2.1 (gs i).2.2.1 (K, kp, ck, hih, 0)).2.2.2.2 1))))) := ⟨_, rfl⟩
        have hH : hm_H Γ f385 H := by rw [ef385]; exact hH
        have h386 : f385 ((r 8)) = some (eI Γ 8 (upd (fun i => (gs i).2.2.2.2.2.2.2.1) i (((gs i).2.2.2.2.2.2.2.1 + (mxI (trM true rr d (gs i).2.1 (gs i).2.2.1 (K, kp, ck, hih, 0)).2.2.2.2 1))))) := by rw [ef385]; exact hm_us
        have h387 : f385 m0 = some (eM r 0 (nI np) (nI ng) (nI nt) (nI T2.2.1) (nI rr) T2.2.2.1 lim dz3 gd3 T2.2.2.2.1 T2.2.2.2.2 ((wp d (gs i).2.1 (gs i).2.2.1).2) ((msh + T2.2.2.2.1)) ((msm + T2.2.2.2.2)) ((mso + 1)) ((sp + (mxI (trM true rr d (gs i).2.1 (gs i).2.2.1 (K, kp, ck, hih, 0)).2.2.2.2 1).toInt64)) rf) := by rw [ef385]; exact (hm_un (hm_ne h355 h363 (fun q => by cases q))).trans h355
        have h388 : f385 ((r 0)) = some (eI Γ 4 (upd mon ((gs i).1) ((mon (gs i).1 - (mxI (trM true rr d (gs i).2.1 (gs i).2.2.1 (K, kp, ck, hih, 0)).2.2.2.2 1))))) := by rw [ef385]; exact (hm_un (hrI 0 8 (by decide) (by decide) (by decide))).trans h354
        have h389 : f385 ((r 1)) = some (eJ Γ 8 (fun i => b4 (gs i).2.1)) := by rw [ef385]; exact (hm_un (hrI 1 8 (by decide) (by decide) (by decide))).trans h356
        have h390 : f385 ((r 2)) = some (eI Γ 8 (fun i => nI (gs i).2.2.1)) := by rw [ef385]; exact (hm_un (hrI 2 8 (by decide) (by decide) (by decide))).trans h357
        have h391 : f385 ((r 3)) = some (eI Γ 8 (fun i => nI (gs i).1)) := by rw [ef385]; exact (hm_un (hrI 3 8 (by decide) (by decide) (by decide))).trans h358
        have h392 : f385 ((r 4)) = some (eI Γ 8 (fun i => (gs i).2.2.2.1)) := by rw [ef385]; exact (hm_un (hrI 4 8 (by decide) (by decide) (by decide))).trans h359
        have h393 : f385 ((r 5)) = some (eI Γ 8 (fun i => (gs i).2.2.2.2.1)) := by rw [ef385]; exact (hm_un (hrI 5 8 (by decide) (by decide) (by decide))).trans h360
        have h394 : f385 ((r 6)) = some (eI Γ 8 (fun i => (gs i).2.2.2.2.2.1)) := by rw [ef385]; exact (hm_un (hrI 6 8 (by decide) (by decide) (by decide))).trans h361
        have h395 : f385 ((r 7)) = some (eI Γ 8 (fun i => (gs i).2.2.2.2.2.2.1)) := by rw [ef385]; exact (hm_un (hrI 7 8 (by decide) (by decide) (by decide))).trans h362
        have h396 : f385 ((r 9)) = some (eZ Γ 8 (fun i => bI (gs i).2.2.2.2.2.2.2.2)) := by rw [ef385]; exact (hm_un (hrI 9 8 (by decide) (by decide) (by decide))).trans h364
        have h397 : f385 ((r 10)) = some (eJ Γ 60 (fun i => b4 (ts i).2.1)) := by rw [ef385]; exact (hm_un (hrI 10 8 (by decide) (by decide) (by decide))).trans h365
        have h398 : f385 ((r 11)) = some (eI Γ 60 (fun i => nI (ts i).2.2.1)) := by rw [ef385]; exact (hm_un (hrI 11 8 (by decide) (by decide) (by decide))).trans h366
        have h399 : f385 ((r 12)) = some (eI Γ 60 (fun i => nI (ts i).1)) := by rw [ef385]; exact (hm_un (hrI 12 8 (by decide) (by decide) (by decide))).trans h367
        have h400 : f385 ((r 13)) = some (eI Γ 60 (fun i => (ts i).2.2.2)) := by rw [ef385]; exact (hm_un (hrI 13 8 (by decide) (by decide) (by decide))).trans h368
        have h401 : f385 ((r 14)) = some (eJ Γ 64 (fun j => (T2.1 j).1)) := by rw [ef385]; exact (hm_un (hrI 14 8 (by decide) (by decide) (by decide))).trans h369
        have h402 : f385 ((r 15)) = some (eI Γ 64 (fun j => (T2.1 j).2.1)) := by rw [ef385]; exact (hm_un (hrI 15 8 (by decide) (by decide) (by decide))).trans h370
        have h403 : f385 ((r 16)) = some (eI Γ 64 (fun j => (T2.1 j).2.2.1)) := by rw [ef385]; exact (hm_un (hrI 16 8 (by decide) (by decide) (by decide))).trans h371
        have h404 : f385 ((r 17)) = some (eI Γ 64 (fun j => (T2.1 j).2.2.2.1)) := by rw [ef385]; exact (hm_un (hrI 17 8 (by decide) (by decide) (by decide))).trans h372
        have h405 : f385 ((r 18)) = some (eI Γ 64 (fun j => (T2.1 j).2.2.2.2.1)) := by rw [ef385]; exact (hm_un (hrI 18 8 (by decide) (by decide) (by decide))).trans h373
        have h406 : f385 ((r 19)) = some (eI Γ 64 (fun j => (T2.1 j).2.2.2.2.2.1)) := by rw [ef385]; exact (hm_un (hrI 19 8 (by decide) (by decide) (by decide))).trans h374
        have h407 : f385 ((r 20)) = some (eI Γ 64 (fun j => (T2.1 j).2.2.2.2.2.2)) := by rw [ef385]; exact (hm_un (hrI 20 8 (by decide) (by decide) (by decide))).trans h375
        have h408 : f385 ((r 21)) = some (eJ Γ 6 pb3) := by rw [ef385]; exact (hm_un (hrI 21 8 (by decide) (by decide) (by decide))).trans h376
        have h409 : f385 ((r 22)) = some (eI Γ 6 pz3) := by rw [ef385]; exact (hm_un (hrI 22 8 (by decide) (by decide) (by decide))).trans h377
        have h410 : f385 ((r 23)) = some (eI Γ 6 pd3) := by rw [ef385]; exact (hm_un (hrI 23 8 (by decide) (by decide) (by decide))).trans h378
        have h411 : f385 ((r 24)) = some (eI Γ 6 pn3) := by rw [ef385]; exact (hm_un (hrI 24 8 (by decide) (by decide) (by decide))).trans h379
        have h412 : f385 ((r 25)) = some (eI Γ 6 pe3) := by rw [ef385]; exact (hm_un (hrI 25 8 (by decide) (by decide) (by decide))).trans h380
        have h413 : f385 ((r 26)) = some (eI Γ 6 ph3) := by rw [ef385]; exact (hm_un (hrI 26 8 (by decide) (by decide) (by decide))).trans h381
        have h414 : f385 ((r 27)) = some (eI Γ 6 pg3) := by rw [ef385]; exact (hm_un (hrI 27 8 (by decide) (by decide) (by decide))).trans h382
        refine lv_aload_n hx hb dX8_hint_181 rfl (lv_at hl 2 rfl) ?_
        refine gf_X8_42 hx hb hts hown hK hH h387 rfl dX8_hint_182 ?_
        refine lv_aload_n hx hb dX8_hint_185 rfl (lv_at hl 2 rfl) ?_
        refine gf_X8_162 hx hb hts hown hK hH h387 rfl dX8_hint_186 ?_
        refine lv_aload_n hx hb dX8_hint_189 rfl (lv_at hl 2 rfl) ?_
        refine gf_X8_13 hx hb hts hown hK hH h387 rfl dX8_hint_190 ?_
        refine lv_iload_n hx hb dX8_hint_193 rfl (lv_at hl 3 rfl) ?_
        refine hm_lald hx hb hK hH h389 (vp_in_nI hi8 (by decide)) dX8_hint_194 ?_
        refine lv_topl (fun v415 ev415 => ?_)
        replace ev415 : v415 = b4 (gs i).2.1 := ev415.trans (by show b4 (gs (nI i).toNatClampNeg).2.1 = _; rw [nI_clamp (n := i) (by omega)])
        subst ev415
        refine hm_last hx hb hK hO hS hH h397 (vp_in_nI hnt60 (by decide)) dX8_hint_195 (fun H locs hH hS => ?_)
        rw [nI_clamp (n := nt) (by omega)] at hH
        obtain ⟨f416, ef416⟩ : ∃ zz_, zz_ = hm_up f385 ((r 10)) (eJ Γ 60 (vp_updL (fun i => b4 (ts i).2.1) nt (b4 (gs i).2.1))) := ⟨_, rfl⟩
        have hH : hm_H Γ f416 H := by rw [ef416]; exact hH
        have h417 : f416 ((r 10)) = some (eJ Γ 60 (vp_updL (fun i => b4 (ts i).2.1) nt (b4 (gs i).2.1))) := by rw [ef416]; exact hm_us
        have h418 : f416 m0 = some (eM r 0 (nI np) (nI ng) (nI nt) (nI T2.2.1) (nI rr) T2.2.2.1 lim dz3 gd3 T2.2.2.2.1 T2.2.2.2.2 ((wp d (gs i).2.1 (gs i).2.2.1).2) ((msh + T2.2.2.2.1)) ((msm + T2.2.2.2.2)) ((mso + 1)) ((sp + (mxI (trM true rr d (gs i).2.1 (gs i).2.2.1 (K, kp, ck, hih, 0)).2.2.2.2 1).toInt64)) rf) := by rw [ef416]; exact (hm_un (hm_ne h387 h397 (fun q => by cases q))).trans h387
        have h419 : f416 ((r 0)) = some (eI Γ 4 (upd mon ((gs i).1) ((mon (gs i).1 - (mxI (trM true rr d (gs i).2.1 (gs i).2.2.1 (K, kp, ck, hih, 0)).2.2.2.2 1))))) := by rw [ef416]; exact (hm_un (hrI 0 10 (by decide) (by decide) (by decide))).trans h388
        have h420 : f416 ((r 1)) = some (eJ Γ 8 (fun i => b4 (gs i).2.1)) := by rw [ef416]; exact (hm_un (hrI 1 10 (by decide) (by decide) (by decide))).trans h389
        have h421 : f416 ((r 2)) = some (eI Γ 8 (fun i => nI (gs i).2.2.1)) := by rw [ef416]; exact (hm_un (hrI 2 10 (by decide) (by decide) (by decide))).trans h390
        have h422 : f416 ((r 3)) = some (eI Γ 8 (fun i => nI (gs i).1)) := by rw [ef416]; exact (hm_un (hrI 3 10 (by decide) (by decide) (by decide))).trans h391
        have h423 : f416 ((r 4)) = some (eI Γ 8 (fun i => (gs i).2.2.2.1)) := by rw [ef416]; exact (hm_un (hrI 4 10 (by decide) (by decide) (by decide))).trans h392
        have h424 : f416 ((r 5)) = some (eI Γ 8 (fun i => (gs i).2.2.2.2.1)) := by rw [ef416]; exact (hm_un (hrI 5 10 (by decide) (by decide) (by decide))).trans h393
        have h425 : f416 ((r 6)) = some (eI Γ 8 (fun i => (gs i).2.2.2.2.2.1)) := by rw [ef416]; exact (hm_un (hrI 6 10 (by decide) (by decide) (by decide))).trans h394
        have h426 : f416 ((r 7)) = some (eI Γ 8 (fun i => (gs i).2.2.2.2.2.2.1)) := by rw [ef416]; exact (hm_un (hrI 7 10 (by decide) (by decide) (by decide))).trans h395
        have h427 : f416 ((r 8)) = some (eI Γ 8 (upd (fun i => (gs i).2.2.2.2.2.2.2.1) i (((gs i).2.2.2.2.2.2.2.1 + (mxI (trM true rr d (gs i).2.1 (gs i).2.2.1 (K, kp, ck, hih, 0)).2.2.2.2 1))))) := by rw [ef416]; exact (hm_un (hrI 8 10 (by decide) (by decide) (by decide))).trans h386
        have h428 : f416 ((r 9)) = some (eZ Γ 8 (fun i => bI (gs i).2.2.2.2.2.2.2.2)) := by rw [ef416]; exact (hm_un (hrI 9 10 (by decide) (by decide) (by decide))).trans h396
        have h429 : f416 ((r 11)) = some (eI Γ 60 (fun i => nI (ts i).2.2.1)) := by rw [ef416]; exact (hm_un (hrI 11 10 (by decide) (by decide) (by decide))).trans h398
        have h430 : f416 ((r 12)) = some (eI Γ 60 (fun i => nI (ts i).1)) := by rw [ef416]; exact (hm_un (hrI 12 10 (by decide) (by decide) (by decide))).trans h399
        have h431 : f416 ((r 13)) = some (eI Γ 60 (fun i => (ts i).2.2.2)) := by rw [ef416]; exact (hm_un (hrI 13 10 (by decide) (by decide) (by decide))).trans h400
        have h432 : f416 ((r 14)) = some (eJ Γ 64 (fun j => (T2.1 j).1)) := by rw [ef416]; exact (hm_un (hrI 14 10 (by decide) (by decide) (by decide))).trans h401
        have h433 : f416 ((r 15)) = some (eI Γ 64 (fun j => (T2.1 j).2.1)) := by rw [ef416]; exact (hm_un (hrI 15 10 (by decide) (by decide) (by decide))).trans h402
        have h434 : f416 ((r 16)) = some (eI Γ 64 (fun j => (T2.1 j).2.2.1)) := by rw [ef416]; exact (hm_un (hrI 16 10 (by decide) (by decide) (by decide))).trans h403
        have h435 : f416 ((r 17)) = some (eI Γ 64 (fun j => (T2.1 j).2.2.2.1)) := by rw [ef416]; exact (hm_un (hrI 17 10 (by decide) (by decide) (by decide))).trans h404
        have h436 : f416 ((r 18)) = some (eI Γ 64 (fun j => (T2.1 j).2.2.2.2.1)) := by rw [ef416]; exact (hm_un (hrI 18 10 (by decide) (by decide) (by decide))).trans h405
        have h437 : f416 ((r 19)) = some (eI Γ 64 (fun j => (T2.1 j).2.2.2.2.2.1)) := by rw [ef416]; exact (hm_un (hrI 19 10 (by decide) (by decide) (by decide))).trans h406
        have h438 : f416 ((r 20)) = some (eI Γ 64 (fun j => (T2.1 j).2.2.2.2.2.2)) := by rw [ef416]; exact (hm_un (hrI 20 10 (by decide) (by decide) (by decide))).trans h407
        have h439 : f416 ((r 21)) = some (eJ Γ 6 pb3) := by rw [ef416]; exact (hm_un (hrI 21 10 (by decide) (by decide) (by decide))).trans h408
        have h440 : f416 ((r 22)) = some (eI Γ 6 pz3) := by rw [ef416]; exact (hm_un (hrI 22 10 (by decide) (by decide) (by decide))).trans h409
        have h441 : f416 ((r 23)) = some (eI Γ 6 pd3) := by rw [ef416]; exact (hm_un (hrI 23 10 (by decide) (by decide) (by decide))).trans h410
        have h442 : f416 ((r 24)) = some (eI Γ 6 pn3) := by rw [ef416]; exact (hm_un (hrI 24 10 (by decide) (by decide) (by decide))).trans h411
        have h443 : f416 ((r 25)) = some (eI Γ 6 pe3) := by rw [ef416]; exact (hm_un (hrI 25 10 (by decide) (by decide) (by decide))).trans h412
        have h444 : f416 ((r 26)) = some (eI Γ 6 ph3) := by rw [ef416]; exact (hm_un (hrI 26 10 (by decide) (by decide) (by decide))).trans h413
        have h445 : f416 ((r 27)) = some (eI Γ 6 pg3) := by rw [ef416]; exact (hm_un (hrI 27 10 (by decide) (by decide) (by decide))).trans h414
        refine lv_aload_n hx hb dX8_hint_196 rfl (lv_at hl 2 rfl) ?_
        refine gf_X8_45 hx hb hts hown hK hH h418 rfl dX8_hint_197 ?_
        refine lv_aload_n hx hb dX8_hint_200 rfl (lv_at hl 2 rfl) ?_
        refine gf_X8_162 hx hb hts hown hK hH h418 rfl dX8_hint_201 ?_
        refine lv_aload_n hx hb dX8_hint_204 rfl (lv_at hl 2 rfl) ?_
        refine gf_X8_17 hx hb hts hown hK hH h418 rfl dX8_hint_205 ?_
        refine lv_iload_n hx hb dX8_hint_208 rfl (lv_at hl 3 rfl) ?_
        refine hm_iald hx hb hK hH h421 (vp_in_nI hi8 (by decide)) dX8_hint_209 ?_
        refine lv_topi (fun v446 ev446 => ?_)
        replace ev446 : v446 = nI (gs i).2.2.1 := ev446.trans (by show nI (gs (nI i).toNatClampNeg).2.2.1 = _; rw [nI_clamp (n := i) (by omega)])
        subst ev446
        refine hm_iast hx hb hK hO hS hH h429 (vp_in_nI hnt60 (by decide)) dX8_hint_210 (fun H locs hH hS => ?_)
        rw [nI_clamp (n := nt) (by omega)] at hH
        obtain ⟨f447, ef447⟩ : ∃ zz_, zz_ = hm_up f416 ((r 11)) (eI Γ 60 (upd (fun i => nI (ts i).2.2.1) nt (nI (gs i).2.2.1))) := ⟨_, rfl⟩
        have hH : hm_H Γ f447 H := by rw [ef447]; exact hH
        have h448 : f447 ((r 11)) = some (eI Γ 60 (upd (fun i => nI (ts i).2.2.1) nt (nI (gs i).2.2.1))) := by rw [ef447]; exact hm_us
        have h449 : f447 m0 = some (eM r 0 (nI np) (nI ng) (nI nt) (nI T2.2.1) (nI rr) T2.2.2.1 lim dz3 gd3 T2.2.2.2.1 T2.2.2.2.2 ((wp d (gs i).2.1 (gs i).2.2.1).2) ((msh + T2.2.2.2.1)) ((msm + T2.2.2.2.2)) ((mso + 1)) ((sp + (mxI (trM true rr d (gs i).2.1 (gs i).2.2.1 (K, kp, ck, hih, 0)).2.2.2.2 1).toInt64)) rf) := by rw [ef447]; exact (hm_un (hm_ne h418 h429 (fun q => by cases q))).trans h418
        have h450 : f447 ((r 0)) = some (eI Γ 4 (upd mon ((gs i).1) ((mon (gs i).1 - (mxI (trM true rr d (gs i).2.1 (gs i).2.2.1 (K, kp, ck, hih, 0)).2.2.2.2 1))))) := by rw [ef447]; exact (hm_un (hrI 0 11 (by decide) (by decide) (by decide))).trans h419
        have h451 : f447 ((r 1)) = some (eJ Γ 8 (fun i => b4 (gs i).2.1)) := by rw [ef447]; exact (hm_un (hrI 1 11 (by decide) (by decide) (by decide))).trans h420
        have h452 : f447 ((r 2)) = some (eI Γ 8 (fun i => nI (gs i).2.2.1)) := by rw [ef447]; exact (hm_un (hrI 2 11 (by decide) (by decide) (by decide))).trans h421
        have h453 : f447 ((r 3)) = some (eI Γ 8 (fun i => nI (gs i).1)) := by rw [ef447]; exact (hm_un (hrI 3 11 (by decide) (by decide) (by decide))).trans h422
        have h454 : f447 ((r 4)) = some (eI Γ 8 (fun i => (gs i).2.2.2.1)) := by rw [ef447]; exact (hm_un (hrI 4 11 (by decide) (by decide) (by decide))).trans h423
        have h455 : f447 ((r 5)) = some (eI Γ 8 (fun i => (gs i).2.2.2.2.1)) := by rw [ef447]; exact (hm_un (hrI 5 11 (by decide) (by decide) (by decide))).trans h424
        have h456 : f447 ((r 6)) = some (eI Γ 8 (fun i => (gs i).2.2.2.2.2.1)) := by rw [ef447]; exact (hm_un (hrI 6 11 (by decide) (by decide) (by decide))).trans h425
        have h457 : f447 ((r 7)) = some (eI Γ 8 (fun i => (gs i).2.2.2.2.2.2.1)) := by rw [ef447]; exact (hm_un (hrI 7 11 (by decide) (by decide) (by decide))).trans h426
        have h458 : f447 ((r 8)) = some (eI Γ 8 (upd (fun i => (gs i).2.2.2.2.2.2.2.1) i (((gs i).2.2.2.2.2.2.2.1 + (mxI (trM true rr d (gs i).2.1 (gs i).2.2.1 (K, kp, ck, hih, 0)).2.2.2.2 1))))) := by rw [ef447]; exact (hm_un (hrI 8 11 (by decide) (by decide) (by decide))).trans h427
        have h459 : f447 ((r 9)) = some (eZ Γ 8 (fun i => bI (gs i).2.2.2.2.2.2.2.2)) := by rw [ef447]; exact (hm_un (hrI 9 11 (by decide) (by decide) (by decide))).trans h428
        have h460 : f447 ((r 10)) = some (eJ Γ 60 (vp_updL (fun i => b4 (ts i).2.1) nt (b4 (gs i).2.1))) := by rw [ef447]; exact (hm_un (hrI 10 11 (by decide) (by decide) (by decide))).trans h417
        have h461 : f447 ((r 12)) = some (eI Γ 60 (fun i => nI (ts i).1)) := by rw [ef447]; exact (hm_un (hrI 12 11 (by decide) (by decide) (by decide))).trans h430
        have h462 : f447 ((r 13)) = some (eI Γ 60 (fun i => (ts i).2.2.2)) := by rw [ef447]; exact (hm_un (hrI 13 11 (by decide) (by decide) (by decide))).trans h431
        have h463 : f447 ((r 14)) = some (eJ Γ 64 (fun j => (T2.1 j).1)) := by rw [ef447]; exact (hm_un (hrI 14 11 (by decide) (by decide) (by decide))).trans h432
        have h464 : f447 ((r 15)) = some (eI Γ 64 (fun j => (T2.1 j).2.1)) := by rw [ef447]; exact (hm_un (hrI 15 11 (by decide) (by decide) (by decide))).trans h433
        have h465 : f447 ((r 16)) = some (eI Γ 64 (fun j => (T2.1 j).2.2.1)) := by rw [ef447]; exact (hm_un (hrI 16 11 (by decide) (by decide) (by decide))).trans h434
        have h466 : f447 ((r 17)) = some (eI Γ 64 (fun j => (T2.1 j).2.2.2.1)) := by rw [ef447]; exact (hm_un (hrI 17 11 (by decide) (by decide) (by decide))).trans h435
        have h467 : f447 ((r 18)) = some (eI Γ 64 (fun j => (T2.1 j).2.2.2.2.1)) := by rw [ef447]; exact (hm_un (hrI 18 11 (by decide) (by decide) (by decide))).trans h436
        have h468 : f447 ((r 19)) = some (eI Γ 64 (fun j => (T2.1 j).2.2.2.2.2.1)) := by rw [ef447]; exact (hm_un (hrI 19 11 (by decide) (by decide) (by decide))).trans h437
        have h469 : f447 ((r 20)) = some (eI Γ 64 (fun j => (T2.1 j).2.2.2.2.2.2)) := by rw [ef447]; exact (hm_un (hrI 20 11 (by decide) (by decide) (by decide))).trans h438
        have h470 : f447 ((r 21)) = some (eJ Γ 6 pb3) := by rw [ef447]; exact (hm_un (hrI 21 11 (by decide) (by decide) (by decide))).trans h439
        have h471 : f447 ((r 22)) = some (eI Γ 6 pz3) := by rw [ef447]; exact (hm_un (hrI 22 11 (by decide) (by decide) (by decide))).trans h440
        have h472 : f447 ((r 23)) = some (eI Γ 6 pd3) := by rw [ef447]; exact (hm_un (hrI 23 11 (by decide) (by decide) (by decide))).trans h441
        have h473 : f447 ((r 24)) = some (eI Γ 6 pn3) := by rw [ef447]; exact (hm_un (hrI 24 11 (by decide) (by decide) (by decide))).trans h442
        have h474 : f447 ((r 25)) = some (eI Γ 6 pe3) := by rw [ef447]; exact (hm_un (hrI 25 11 (by decide) (by decide) (by decide))).trans h443
        have h475 : f447 ((r 26)) = some (eI Γ 6 ph3) := by rw [ef447]; exact (hm_un (hrI 26 11 (by decide) (by decide) (by decide))).trans h444
        have h476 : f447 ((r 27)) = some (eI Γ 6 pg3) := by rw [ef447]; exact (hm_un (hrI 27 11 (by decide) (by decide) (by decide))).trans h445
        refine lv_aload_n hx hb dX8_hint_211 rfl (lv_at hl 2 rfl) ?_
        refine gf_X8_48 hx hb hts hown hK hH h449 rfl dX8_hint_212 ?_
        refine lv_aload_n hx hb dX8_hint_215 rfl (lv_at hl 2 rfl) ?_
        refine gf_X8_162 hx hb hts hown hK hH h449 rfl dX8_hint_216 ?_
        refine lv_aload_n hx hb dX8_hint_219 rfl (lv_at hl 2 rfl) ?_
        refine gf_X8_20 hx hb hts hown hK hH h449 rfl dX8_hint_220 ?_
        refine lv_iload_n hx hb dX8_hint_223 rfl (lv_at hl 3 rfl) ?_
        refine hm_iald hx hb hK hH h453 (vp_in_nI hi8 (by decide)) dX8_hint_224 ?_
        refine lv_topi (fun v477 ev477 => ?_)
        replace ev477 : v477 = nI (gs i).1 := ev477.trans (by show nI (gs (nI i).toNatClampNeg).1 = _; rw [nI_clamp (n := i) (by omega)])
        subst ev477
        refine hm_iast hx hb hK hO hS hH h461 (vp_in_nI hnt60 (by decide)) dX8_hint_225 (fun H locs hH hS => ?_)
        rw [nI_clamp (n := nt) (by omega)] at hH
        obtain ⟨f478, ef478⟩ : ∃ zz_, zz_ = hm_up f447 ((r 12)) (eI Γ 60 (upd (fun i => nI (ts i).1) nt (nI (gs i).1))) := ⟨_, rfl⟩
        have hH : hm_H Γ f478 H := by rw [ef478]; exact hH
        have h479 : f478 ((r 12)) = some (eI Γ 60 (upd (fun i => nI (ts i).1) nt (nI (gs i).1))) := by rw [ef478]; exact hm_us
        have h480 : f478 m0 = some (eM r 0 (nI np) (nI ng) (nI nt) (nI T2.2.1) (nI rr) T2.2.2.1 lim dz3 gd3 T2.2.2.2.1 T2.2.2.2.2 ((wp d (gs i).2.1 (gs i).2.2.1).2) ((msh + T2.2.2.2.1)) ((msm + T2.2.2.2.2)) ((mso + 1)) ((sp + (mxI (trM true rr d (gs i).2.1 (gs i).2.2.1 (K, kp, ck, hih, 0)).2.2.2.2 1).toInt64)) rf) := by rw [ef478]; exact (hm_un (hm_ne h449 h461 (fun q => by cases q))).trans h449
        have h481 : f478 ((r 0)) = some (eI Γ 4 (upd mon ((gs i).1) ((mon (gs i).1 - (mxI (trM true rr d (gs i).2.1 (gs i).2.2.1 (K, kp, ck, hih, 0)).2.2.2.2 1))))) := by rw [ef478]; exact (hm_un (hrI 0 12 (by decide) (by decide) (by decide))).trans h450
        have h482 : f478 ((r 1)) = some (eJ Γ 8 (fun i => b4 (gs i).2.1)) := by rw [ef478]; exact (hm_un (hrI 1 12 (by decide) (by decide) (by decide))).trans h451
        have h483 : f478 ((r 2)) = some (eI Γ 8 (fun i => nI (gs i).2.2.1)) := by rw [ef478]; exact (hm_un (hrI 2 12 (by decide) (by decide) (by decide))).trans h452
        have h484 : f478 ((r 3)) = some (eI Γ 8 (fun i => nI (gs i).1)) := by rw [ef478]; exact (hm_un (hrI 3 12 (by decide) (by decide) (by decide))).trans h453
        have h485 : f478 ((r 4)) = some (eI Γ 8 (fun i => (gs i).2.2.2.1)) := by rw [ef478]; exact (hm_un (hrI 4 12 (by decide) (by decide) (by decide))).trans h454
        have h486 : f478 ((r 5)) = some (eI Γ 8 (fun i => (gs i).2.2.2.2.1)) := by rw [ef478]; exact (hm_un (hrI 5 12 (by decide) (by decide) (by decide))).trans h455
        have h487 : f478 ((r 6)) = some (eI Γ 8 (fun i => (gs i).2.2.2.2.2.1)) := by rw [ef478]; exact (hm_un (hrI 6 12 (by decide) (by decide) (by decide))).trans h456
        have h488 : f478 ((r 7)) = some (eI Γ 8 (fun i => (gs i).2.2.2.2.2.2.1)) := by rw [ef478]; exact (hm_un (hrI 7 12 (by decide) (by decide) (by decide))).trans h457
        have h489 : f478 ((r 8)) = some (eI Γ 8 (upd (fun i => (gs i).2.2.2.2.2.2.2.1) i (((gs i).2.2.2.2.2.2.2.1 + (mxI (trM true rr d (gs i).2.1 (gs i).2.2.1 (K, kp, ck, hih, 0)).2.2.2.2 1))))) := by rw [ef478]; exact (hm_un (hrI 8 12 (by decide) (by decide) (by decide))).trans h458
        have h490 : f478 ((r 9)) = some (eZ Γ 8 (fun i => bI (gs i).2.2.2.2.2.2.2.2)) := by rw [ef478]; exact (hm_un (hrI 9 12 (by decide) (by decide) (by decide))).trans h459
        have h491 : f478 ((r 10)) = some (eJ Γ 60 (vp_updL (fun i => b4 (ts i).2.1) nt (b4 (gs i).2.1))) := by rw [ef478]; exact (hm_un (hrI 10 12 (by decide) (by decide) (by decide))).trans h460
        have h492 : f478 ((r 11)) = some (eI Γ 60 (upd (fun i => nI (ts i).2.2.1) nt (nI (gs i).2.2.1))) := by rw [ef478]; exact (hm_un (hrI 11 12 (by decide) (by decide) (by decide))).trans h448
        have h493 : f478 ((r 13)) = some (eI Γ 60 (fun i => (ts i).2.2.2)) := by rw [ef478]; exact (hm_un (hrI 13 12 (by decide) (by decide) (by decide))).trans h462
        have h494 : f478 ((r 14)) = some (eJ Γ 64 (fun j => (T2.1 j).1)) := by rw [ef478]; exact (hm_un (hrI 14 12 (by decide) (by decide) (by decide))).trans h463
        have h495 : f478 ((r 15)) = some (eI Γ 64 (fun j => (T2.1 j).2.1)) := by rw [ef478]; exact (hm_un (hrI 15 12 (by decide) (by decide) (by decide))).trans h464
        have h496 : f478 ((r 16)) = some (eI Γ 64 (fun j => (T2.1 j).2.2.1)) := by rw [ef478]; exact (hm_un (hrI 16 12 (by decide) (by decide) (by decide))).trans h465
        have h497 : f478 ((r 17)) = some (eI Γ 64 (fun j => (T2.1 j).2.2.2.1)) := by rw [ef478]; exact (hm_un (hrI 17 12 (by decide) (by decide) (by decide))).trans h466
        have h498 : f478 ((r 18)) = some (eI Γ 64 (fun j => (T2.1 j).2.2.2.2.1)) := by rw [ef478]; exact (hm_un (hrI 18 12 (by decide) (by decide) (by decide))).trans h467
        have h499 : f478 ((r 19)) = some (eI Γ 64 (fun j => (T2.1 j).2.2.2.2.2.1)) := by rw [ef478]; exact (hm_un (hrI 19 12 (by decide) (by decide) (by decide))).trans h468
        have h500 : f478 ((r 20)) = some (eI Γ 64 (fun j => (T2.1 j).2.2.2.2.2.2)) := by rw [ef478]; exact (hm_un (hrI 20 12 (by decide) (by decide) (by decide))).trans h469
        have h501 : f478 ((r 21)) = some (eJ Γ 6 pb3) := by rw [ef478]; exact (hm_un (hrI 21 12 (by decide) (by decide) (by decide))).trans h470
        have h502 : f478 ((r 22)) = some (eI Γ 6 pz3) := by rw [ef478]; exact (hm_un (hrI 22 12 (by decide) (by decide) (by decide))).trans h471
        have h503 : f478 ((r 23)) = some (eI Γ 6 pd3) := by rw [ef478]; exact (hm_un (hrI 23 12 (by decide) (by decide) (by decide))).trans h472
        have h504 : f478 ((r 24)) = some (eI Γ 6 pn3) := by rw [ef478]; exact (hm_un (hrI 24 12 (by decide) (by decide) (by decide))).trans h473
        have h505 : f478 ((r 25)) = some (eI Γ 6 pe3) := by rw [ef478]; exact (hm_un (hrI 25 12 (by decide) (by decide) (by decide))).trans h474
        have h506 : f478 ((r 26)) = some (eI Γ 6 ph3) := by rw [ef478]; exact (hm_un (hrI 26 12 (by decide) (by decide) (by decide))).trans h475
        have h507 : f478 ((r 27)) = some (eI Γ 6 pg3) := by rw [ef478]; exact (hm_un (hrI 27 12 (by decide) (by decide) (by decide))).trans h476
        refine lv_aload_n hx hb dX8_hint_226 rfl (lv_at hl 2 rfl) ?_
        refine gf_X8_51 hx hb hts hown hK hH h480 rfl dX8_hint_227 ?_
        refine lv_aload_n hx hb dX8_hint_230 rfl (lv_at hl 2 rfl) ?_
        refine gf_X8_162 hx hb hts hown hK hH h480 rfl dX8_hint_231 ?_
        refine lv_aload_n hx hb dX8_hint_234 rfl (lv_at hl 2 rfl) ?_
        refine gf_X8_187 hx hb hts hown hK hH h480 rfl dX8_hint_235 ?_
        refine hm_iast hx hb hK hO hS hH h493 (vp_in_nI hnt60 (by decide)) dX8_hint_238 (fun H locs hH hS => ?_)
        rw [nI_clamp (n := nt) (by omega)] at hH
        obtain ⟨f508, ef508⟩ : ∃ zz_, zz_ = hm_up f478 ((r 13)) (eI Γ 60 (upd (fun i => (ts i).2.2.2) nt ((wp d (gs i).2.1 (gs i).2.2.1).2))) := ⟨_, rfl⟩
        have hH : hm_H Γ f508 H := by rw [ef508]; exact hH
        have h509 : f508 ((r 13)) = some (eI Γ 60 (upd (fun i => (ts i).2.2.2) nt ((wp d (gs i).2.1 (gs i).2.2.1).2))) := by rw [ef508]; exact hm_us
        have h510 : f508 m0 = some (eM r 0 (nI np) (nI ng) (nI nt) (nI T2.2.1) (nI rr) T2.2.2.1 lim dz3 gd3 T2.2.2.2.1 T2.2.2.2.2 ((wp d (gs i).2.1 (gs i).2.2.1).2) ((msh + T2.2.2.2.1)) ((msm + T2.2.2.2.2)) ((mso + 1)) ((sp + (mxI (trM true rr d (gs i).2.1 (gs i).2.2.1 (K, kp, ck, hih, 0)).2.2.2.2 1).toInt64)) rf) := by rw [ef508]; exact (hm_un (hm_ne h480 h493 (fun q => by cases q))).trans h480
        have h511 : f508 ((r 0)) = some (eI Γ 4 (upd mon ((gs i).1) ((mon (gs i).1 - (mxI (trM true rr d (gs i).2.1 (gs i).2.2.1 (K, kp, ck, hih, 0)).2.2.2.2 1))))) := by rw [ef508]; exact (hm_un (hrI 0 13 (by decide) (by decide) (by decide))).trans h481
        have h512 : f508 ((r 1)) = some (eJ Γ 8 (fun i => b4 (gs i).2.1)) := by rw [ef508]; exact (hm_un (hrI 1 13 (by decide) (by decide) (by decide))).trans h482
        have h513 : f508 ((r 2)) = some (eI Γ 8 (fun i => nI (gs i).2.2.1)) := by rw [ef508]; exact (hm_un (hrI 2 13 (by decide) (by decide) (by decide))).trans h483
        have h514 : f508 ((r 3)) = some (eI Γ 8 (fun i => nI (gs i).1)) := by rw [ef508]; exact (hm_un (hrI 3 13 (by decide) (by decide) (by decide))).trans h484
        have h515 : f508 ((r 4)) = some (eI Γ 8 (fun i => (gs i).2.2.2.1)) := by rw [ef508]; exact (hm_un (hrI 4 13 (by decide) (by decide) (by decide))).trans h485
        have h516 : f508 ((r 5)) = some (eI Γ 8 (fun i => (gs i).2.2.2.2.1)) := by rw [ef508]; exact (hm_un (hrI 5 13 (by decide) (by decide) (by decide))).trans h486
        have h517 : f508 ((r 6)) = some (eI Γ 8 (fun i => (gs i).2.2.2.2.2.1)) := by rw [ef508]; exact (hm_un (hrI 6 13 (by decide) (by decide) (by decide))).trans h487
        have h518 : f508 ((r 7)) = some (eI Γ 8 (fun i => (gs i).2.2.2.2.2.2.1)) := by rw [ef508]; exact (hm_un (hrI 7 13 (by decide) (by decide) (by decide))).trans h488
        have h519 : f508 ((r 8)) = some (eI Γ 8 (upd (fun i => (gs i).2.2.2.2.2.2.2.1) i (((gs i).2.2.2.2.2.2.2.1 + (mxI (trM true rr d (gs i).2.1 (gs i).2.2.1 (K, kp, ck, hih, 0)).2.2.2.2 1))))) := by rw [ef508]; exact (hm_un (hrI 8 13 (by decide) (by decide) (by decide))).trans h489
        have h520 : f508 ((r 9)) = some (eZ Γ 8 (fun i => bI (gs i).2.2.2.2.2.2.2.2)) := by rw [ef508]; exact (hm_un (hrI 9 13 (by decide) (by decide) (by decide))).trans h490
        have h521 : f508 ((r 10)) = some (eJ Γ 60 (vp_updL (fun i => b4 (ts i).2.1) nt (b4 (gs i).2.1))) := by rw [ef508]; exact (hm_un (hrI 10 13 (by decide) (by decide) (by decide))).trans h491
        have h522 : f508 ((r 11)) = some (eI Γ 60 (upd (fun i => nI (ts i).2.2.1) nt (nI (gs i).2.2.1))) := by rw [ef508]; exact (hm_un (hrI 11 13 (by decide) (by decide) (by decide))).trans h492
        have h523 : f508 ((r 12)) = some (eI Γ 60 (upd (fun i => nI (ts i).1) nt (nI (gs i).1))) := by rw [ef508]; exact (hm_un (hrI 12 13 (by decide) (by decide) (by decide))).trans h479
        have h524 : f508 ((r 14)) = some (eJ Γ 64 (fun j => (T2.1 j).1)) := by rw [ef508]; exact (hm_un (hrI 14 13 (by decide) (by decide) (by decide))).trans h494
        have h525 : f508 ((r 15)) = some (eI Γ 64 (fun j => (T2.1 j).2.1)) := by rw [ef508]; exact (hm_un (hrI 15 13 (by decide) (by decide) (by decide))).trans h495
        have h526 : f508 ((r 16)) = some (eI Γ 64 (fun j => (T2.1 j).2.2.1)) := by rw [ef508]; exact (hm_un (hrI 16 13 (by decide) (by decide) (by decide))).trans h496
        have h527 : f508 ((r 17)) = some (eI Γ 64 (fun j => (T2.1 j).2.2.2.1)) := by rw [ef508]; exact (hm_un (hrI 17 13 (by decide) (by decide) (by decide))).trans h497
        have h528 : f508 ((r 18)) = some (eI Γ 64 (fun j => (T2.1 j).2.2.2.2.1)) := by rw [ef508]; exact (hm_un (hrI 18 13 (by decide) (by decide) (by decide))).trans h498
        have h529 : f508 ((r 19)) = some (eI Γ 64 (fun j => (T2.1 j).2.2.2.2.2.1)) := by rw [ef508]; exact (hm_un (hrI 19 13 (by decide) (by decide) (by decide))).trans h499
        have h530 : f508 ((r 20)) = some (eI Γ 64 (fun j => (T2.1 j).2.2.2.2.2.2)) := by rw [ef508]; exact (hm_un (hrI 20 13 (by decide) (by decide) (by decide))).trans h500
        have h531 : f508 ((r 21)) = some (eJ Γ 6 pb3) := by rw [ef508]; exact (hm_un (hrI 21 13 (by decide) (by decide) (by decide))).trans h501
        have h532 : f508 ((r 22)) = some (eI Γ 6 pz3) := by rw [ef508]; exact (hm_un (hrI 22 13 (by decide) (by decide) (by decide))).trans h502
        have h533 : f508 ((r 23)) = some (eI Γ 6 pd3) := by rw [ef508]; exact (hm_un (hrI 23 13 (by decide) (by decide) (by decide))).trans h503
        have h534 : f508 ((r 24)) = some (eI Γ 6 pn3) := by rw [ef508]; exact (hm_un (hrI 24 13 (by decide) (by decide) (by decide))).trans h504
        have h535 : f508 ((r 25)) = some (eI Γ 6 pe3) := by rw [ef508]; exact (hm_un (hrI 25 13 (by decide) (by decide) (by decide))).trans h505
        have h536 : f508 ((r 26)) = some (eI Γ 6 ph3) := by rw [ef508]; exact (hm_un (hrI 26 13 (by decide) (by decide) (by decide))).trans h506
        have h537 : f508 ((r 27)) = some (eI Γ 6 pg3) := by rw [ef508]; exact (hm_un (hrI 27 13 (by decide) (by decide) (by decide))).trans h507
        refine lv_aload_n hx hb dX8_hint_239 rfl (lv_at hl 2 rfl) ?_
        refine lv_dup hx hb dX8_hint_240 rfl ?_
        refine gf_X8_162 hx hb hts hown hK hH h510 rfl dX8_hint_241 ?_
        refine lv_iconst (v := 1) hx hb dX8_hint_244 (by decide) ?_
        refine lv_iadd hx hb dX8_hint_245 ?_
        refine lv_topi (fun v538 ev538 => ?_)
        replace ev538 : v538 = (nI (nt + 1)) := ev538.trans (nI_1 nt)
        subst ev538
        refine pf_X8_162 hx hb hts hown hK hO hS hH h510 rfl (Nat.le_of_ble_eq_true rfl) rfl dX8_hint_246 (fun H locs hH hS => ?_)
        obtain ⟨f539, ef539⟩ : ∃ zz_, zz_ = hm_up f508 m0 (eM r 0 (nI np) (nI ng) ((nI (nt + 1))) (nI T2.2.1) (nI rr) T2.2.2.1 lim dz3 gd3 T2.2.2.2.1 T2.2.2.2.2 ((wp d (gs i).2.1 (gs i).2.2.1).2) ((msh + T2.2.2.2.1)) ((msm + T2.2.2.2.2)) ((mso + 1)) ((sp + (mxI (trM true rr d (gs i).2.1 (gs i).2.2.1 (K, kp, ck, hih, 0)).2.2.2.2 1).toInt64)) rf) := ⟨_, rfl⟩
        have hH : hm_H Γ f539 H := by rw [ef539]; exact hH
        have h540 : f539 m0 = some (eM r 0 (nI np) (nI ng) ((nI (nt + 1))) (nI T2.2.1) (nI rr) T2.2.2.1 lim dz3 gd3 T2.2.2.2.1 T2.2.2.2.2 ((wp d (gs i).2.1 (gs i).2.2.1).2) ((msh + T2.2.2.2.1)) ((msm + T2.2.2.2.2)) ((mso + 1)) ((sp + (mxI (trM true rr d (gs i).2.1 (gs i).2.2.1 (K, kp, ck, hih, 0)).2.2.2.2 1).toInt64)) rf) := by rw [ef539]; exact hm_us
        have h541 : f539 ((r 0)) = some (eI Γ 4 (upd mon ((gs i).1) ((mon (gs i).1 - (mxI (trM true rr d (gs i).2.1 (gs i).2.2.1 (K, kp, ck, hih, 0)).2.2.2.2 1))))) := by rw [ef539]; exact (hm_un (hm_ne h511 h510 (fun q => by cases q))).trans h511
        have h542 : f539 ((r 1)) = some (eJ Γ 8 (fun i => b4 (gs i).2.1)) := by rw [ef539]; exact (hm_un (hm_ne h512 h510 (fun q => by cases q))).trans h512
        have h543 : f539 ((r 2)) = some (eI Γ 8 (fun i => nI (gs i).2.2.1)) := by rw [ef539]; exact (hm_un (hm_ne h513 h510 (fun q => by cases q))).trans h513
        have h544 : f539 ((r 3)) = some (eI Γ 8 (fun i => nI (gs i).1)) := by rw [ef539]; exact (hm_un (hm_ne h514 h510 (fun q => by cases q))).trans h514
        have h545 : f539 ((r 4)) = some (eI Γ 8 (fun i => (gs i).2.2.2.1)) := by rw [ef539]; exact (hm_un (hm_ne h515 h510 (fun q => by cases q))).trans h515
        have h546 : f539 ((r 5)) = some (eI Γ 8 (fun i => (gs i).2.2.2.2.1)) := by rw [ef539]; exact (hm_un (hm_ne h516 h510 (fun q => by cases q))).trans h516
        have h547 : f539 ((r 6)) = some (eI Γ 8 (fun i => (gs i).2.2.2.2.2.1)) := by rw [ef539]; exact (hm_un (hm_ne h517 h510 (fun q => by cases q))).trans h517
        have h548 : f539 ((r 7)) = some (eI Γ 8 (fun i => (gs i).2.2.2.2.2.2.1)) := by rw [ef539]; exact (hm_un (hm_ne h518 h510 (fun q => by cases q))).trans h518
        have h549 : f539 ((r 8)) = some (eI Γ 8 (upd (fun i => (gs i).2.2.2.2.2.2.2.1) i (((gs i).2.2.2.2.2.2.2.1 + (mxI (trM true rr d (gs i).2.1 (gs i).2.2.1 (K, kp, ck, hih, 0)).2.2.2.2 1))))) := by rw [ef539]; exact (hm_un (hm_ne h519 h510 (fun q => by cases q))).trans h519
        have h550 : f539 ((r 9)) = some (eZ Γ 8 (fun i => bI (gs i).2.2.2.2.2.2.2.2)) := by rw [ef539]; exact (hm_un (hm_ne h520 h510 (fun q => by cases q))).trans h520
        have h551 : f539 ((r 10)) = some (eJ Γ 60 (vp_updL (fun i => b4 (ts i).2.1) nt (b4 (gs i).2.1))) := by rw [ef539]; exact (hm_un (hm_ne h521 h510 (fun q => by cases q))).trans h521
        have h552 : f539 ((r 11)) = some (eI Γ 60 (upd (fun i => nI (ts i).2.2.1) nt (nI (gs i).2.2.1))) := by rw [ef539]; exact (hm_un (hm_ne h522 h510 (fun q => by cases q))).trans h522
        have h553 : f539 ((r 12)) = some (eI Γ 60 (upd (fun i => nI (ts i).1) nt (nI (gs i).1))) := by rw [ef539]; exact (hm_un (hm_ne h523 h510 (fun q => by cases q))).trans h523
        have h554 : f539 ((r 13)) = some (eI Γ 60 (upd (fun i => (ts i).2.2.2) nt ((wp d (gs i).2.1 (gs i).2.2.1).2))) := by rw [ef539]; exact (hm_un (hm_ne h509 h510 (fun q => by cases q))).trans h509
        have h555 : f539 ((r 14)) = some (eJ Γ 64 (fun j => (T2.1 j).1)) := by rw [ef539]; exact (hm_un (hm_ne h524 h510 (fun q => by cases q))).trans h524
        have h556 : f539 ((r 15)) = some (eI Γ 64 (fun j => (T2.1 j).2.1)) := by rw [ef539]; exact (hm_un (hm_ne h525 h510 (fun q => by cases q))).trans h525
        have h557 : f539 ((r 16)) = some (eI Γ 64 (fun j => (T2.1 j).2.2.1)) := by rw [ef539]; exact (hm_un (hm_ne h526 h510 (fun q => by cases q))).trans h526
        have h558 : f539 ((r 17)) = some (eI Γ 64 (fun j => (T2.1 j).2.2.2.1)) := by rw [ef539]; exact (hm_un (hm_ne h527 h510 (fun q => by cases q))).trans h527
        have h559 : f539 ((r 18)) = some (eI Γ 64 (fun j => (T2.1 j).2.2.2.2.1)) := by rw [ef539]; exact (hm_un (hm_ne h528 h510 (fun q => by cases q))).trans h528
        have h560 : f539 ((r 19)) = some (eI Γ 64 (fun j => (T2.1 j).2.2.2.2.2.1)) := by rw [ef539]; exact (hm_un (hm_ne h529 h510 (fun q => by cases q))).trans h529
        have h561 : f539 ((r 20)) = some (eI Γ 64 (fun j => (T2.1 j).2.2.2.2.2.2)) := by rw [ef539]; exact (hm_un (hm_ne h530 h510 (fun q => by cases q))).trans h530
        have h562 : f539 ((r 21)) = some (eJ Γ 6 pb3) := by rw [ef539]; exact (hm_un (hm_ne h531 h510 (fun q => by cases q))).trans h531
        have h563 : f539 ((r 22)) = some (eI Γ 6 pz3) := by rw [ef539]; exact (hm_un (hm_ne h532 h510 (fun q => by cases q))).trans h532
        have h564 : f539 ((r 23)) = some (eI Γ 6 pd3) := by rw [ef539]; exact (hm_un (hm_ne h533 h510 (fun q => by cases q))).trans h533
        have h565 : f539 ((r 24)) = some (eI Γ 6 pn3) := by rw [ef539]; exact (hm_un (hm_ne h534 h510 (fun q => by cases q))).trans h534
        have h566 : f539 ((r 25)) = some (eI Γ 6 pe3) := by rw [ef539]; exact (hm_un (hm_ne h535 h510 (fun q => by cases q))).trans h535
        have h567 : f539 ((r 26)) = some (eI Γ 6 ph3) := by rw [ef539]; exact (hm_un (hm_ne h536 h510 (fun q => by cases q))).trans h536
        have h568 : f539 ((r 27)) = some (eI Γ 6 pg3) := by rw [ef539]; exact (hm_un (hm_ne h537 h510 (fun q => by cases q))).trans h537
        refine lv_aload_n hx hb dX8_hint_249 rfl (lv_at hl 2 rfl) ?_
        refine gf_X8_187 hx hb hts hown hK hH h540 rfl dX8_hint_250 ?_
        have hKe := kh5 (d := decide (mxI (trM true rr (ix (nI d)) (gs (ix (nI i))).2.1 (gs (ix (nI i))).2.2.1 (K, kp, ck, 0, 0)).2.2.2.2 1 ≤ mon (gs (ix (nI i))).1)) (e := decide (nt < 60)) hK0
        have hPR := trM_mis (rr := rr) (d := d) (z := (gs i).2.2.1) (t := (gs i).2.1) (K := K) (kp := kp) (ck := ck) (h := hih)
        have hfr8 : hm_fr (mS m0 r) f3_ f539 := by
          rw [ef539, ef508, ef478, ef447, ef416, ef385, ef353, ef320, ef288, ef257, ef226]
          exact (((((((((((hm_fr.rf (S := mS m0 r)).up mS_0).up mS_0).up mS_0).up mS_0).up (mS_r (by decide))).up (mS_r (by decide))).up (mS_r (by decide))).up (mS_r (by decide))).up (mS_r (by decide))).up (mS_r (by decide))).up mS_0
        have hfr9 := hfrq.tr hfr8.k
        exact hm_iret hx hb hr hlocks hS hH (⟨Or.inl ⟨(by rw [hKe, hid, hix, ← hPR]; rw [hb51]; rw [hb116]; rfl), by rw [hid, hix], K2, hK2, (by rw [hid, hix, ← hPR, ← eT2]; exact MW.mk h540 ⟨⟨h555, h556, h557, h558, h559, h560, h561⟩, ⟨_, _, _, _, _, _, _, h562, h563, h564, h565, h566, h567, h568⟩, h541, ⟨h542.trans (congrArg some (congrArg (eJ Γ 8) (gset_p (fun x : GS => b4 (x).2.1) (gs := gs) (i := i) (y := ((gs i).1, (gs i).2.1, (gs i).2.2.1, (gs i).2.2.2.1, (gs i).2.2.2.2.1, (gs i).2.2.2.2.2.1, (gs i).2.2.2.2.2.2.1, (gs i).2.2.2.2.2.2.2.1 + (mxI (trM true rr d (gs i).2.1 (gs i).2.2.1 (K, kp, ck, hih, 0)).2.2.2.2 1), (gs i).2.2.2.2.2.2.2.2)) rfl))), h543.trans (congrArg some (congrArg (eI Γ 8) (gset_p (fun x : GS => nI (x).2.2.1) (gs := gs) (i := i) (y := ((gs i).1, (gs i).2.1, (gs i).2.2.1, (gs i).2.2.2.1, (gs i).2.2.2.2.1, (gs i).2.2.2.2.2.1, (gs i).2.2.2.2.2.2.1, (gs i).2.2.2.2.2.2.2.1 + (mxI (trM true rr d (gs i).2.1 (gs i).2.2.1 (K, kp, ck, hih, 0)).2.2.2.2 1), (gs i).2.2.2.2.2.2.2.2)) rfl))), h544.trans (congrArg some (congrArg (eI Γ 8) (gset_p (fun x : GS => nI (x).1) (gs := gs) (i := i) (y := ((gs i).1, (gs i).2.1, (gs i).2.2.1, (gs i).2.2.2.1, (gs i).2.2.2.2.1, (gs i).2.2.2.2.2.1, (gs i).2.2.2.2.2.2.1, (gs i).2.2.2.2.2.2.2.1 + (mxI (trM true rr d (gs i).2.1 (gs i).2.2.1 (K, kp, ck, hih, 0)).2.2.2.2 1), (gs i).2.2.2.2.2.2.2.2)) rfl))), h545.trans (congrArg some (congrArg (eI Γ 8) (gset_p (fun x : GS => (x).2.2.2.1) (gs := gs) (i := i) (y := ((gs i).1, (gs i).2.1, (gs i).2.2.1, (gs i).2.2.2.1, (gs i).2.2.2.2.1, (gs i).2.2.2.2.2.1, (gs i).2.2.2.2.2.2.1, (gs i).2.2.2.2.2.2.2.1 + (mxI (trM true rr d (gs i).2.1 (gs i).2.2.1 (K, kp, ck, hih, 0)).2.2.2.2 1), (gs i).2.2.2.2.2.2.2.2)) rfl))), h546.trans (congrArg some (congrArg (eI Γ 8) (gset_p (fun x : GS => (x).2.2.2.2.1) (gs := gs) (i := i) (y := ((gs i).1, (gs i).2.1, (gs i).2.2.1, (gs i).2.2.2.1, (gs i).2.2.2.2.1, (gs i).2.2.2.2.2.1, (gs i).2.2.2.2.2.2.1, (gs i).2.2.2.2.2.2.2.1 + (mxI (trM true rr d (gs i).2.1 (gs i).2.2.1 (K, kp, ck, hih, 0)).2.2.2.2 1), (gs i).2.2.2.2.2.2.2.2)) rfl))), h547.trans (congrArg some (congrArg (eI Γ 8) (gset_p (fun x : GS => (x).2.2.2.2.2.1) (gs := gs) (i := i) (y := ((gs i).1, (gs i).2.1, (gs i).2.2.1, (gs i).2.2.2.1, (gs i).2.2.2.2.1, (gs i).2.2.2.2.2.1, (gs i).2.2.2.2.2.2.1, (gs i).2.2.2.2.2.2.2.1 + (mxI (trM true rr d (gs i).2.1 (gs i).2.2.1 (K, kp, ck, hih, 0)).2.2.2.2 1), (gs i).2.2.2.2.2.2.2.2)) rfl))), h548.trans (congrArg some (congrArg (eI Γ 8) (gset_p (fun x : GS => (x).2.2.2.2.2.2.1) (gs := gs) (i := i) (y := ((gs i).1, (gs i).2.1, (gs i).2.2.1, (gs i).2.2.2.1, (gs i).2.2.2.2.1, (gs i).2.2.2.2.2.1, (gs i).2.2.2.2.2.2.1, (gs i).2.2.2.2.2.2.2.1 + (mxI (trM true rr d (gs i).2.1 (gs i).2.2.1 (K, kp, ck, hih, 0)).2.2.2.2 1), (gs i).2.2.2.2.2.2.2.2)) rfl))), h549.trans (congrArg some (congrArg (eI Γ 8) (upd_fun (fun x : GS => (x).2.2.2.2.2.2.2.1) gs i ((gs i).1, (gs i).2.1, (gs i).2.2.1, (gs i).2.2.2.1, (gs i).2.2.2.2.1, (gs i).2.2.2.2.2.1, (gs i).2.2.2.2.2.2.1, (gs i).2.2.2.2.2.2.2.1 + (mxI (trM true rr d (gs i).2.1 (gs i).2.2.1 (K, kp, ck, hih, 0)).2.2.2.2 1), (gs i).2.2.2.2.2.2.2.2)))), h550.trans (congrArg some (congrArg (eZ Γ 8) (gset_p (fun x : GS => bI (x).2.2.2.2.2.2.2.2) (gs := gs) (i := i) (y := ((gs i).1, (gs i).2.1, (gs i).2.2.1, (gs i).2.2.2.1, (gs i).2.2.2.2.1, (gs i).2.2.2.2.2.1, (gs i).2.2.2.2.2.2.1, (gs i).2.2.2.2.2.2.2.1 + (mxI (trM true rr d (gs i).2.1 (gs i).2.2.1 (K, kp, ck, hih, 0)).2.2.2.2 1), (gs i).2.2.2.2.2.2.2.2)) rfl)))⟩, h551.trans (congrArg some (congrArg (eJ Γ 60) (updL_fun (fun x : TR => b4 (x).2.1) ts nt ((gs i).1, (gs i).2.1, (gs i).2.2.1, (wp d (gs i).2.1 (gs i).2.2.1).2)))), h552.trans (congrArg some (congrArg (eI Γ 60) (upd_fun (fun x : TR => nI (x).2.2.1) ts nt ((gs i).1, (gs i).2.1, (gs i).2.2.1, (wp d (gs i).2.1 (gs i).2.2.1).2)))), h553.trans (congrArg some (congrArg (eI Γ 60) (upd_fun (fun x : TR => nI (x).1) ts nt ((gs i).1, (gs i).2.1, (gs i).2.2.1, (wp d (gs i).2.1 (gs i).2.2.1).2)))), h554.trans (congrArg some (congrArg (eI Γ 60) (upd_fun (fun x : TR => (x).2.2.2) ts nt ((gs i).1, (gs i).2.1, (gs i).2.2.1, (wp d (gs i).2.1 (gs i).2.2.1).2))))⟩)⟩, hfr9⟩) (Nat.le_of_ble_eq_true rfl) (Nat.le_of_ble_eq_true rfl) dX8_hint_253
  · refine W.eq (g2 := F0 m 6 ls [.int 1]) rfl ?_
    refine lv_if_eq (tgt := 11) hx hb dX8_hint_6 (by decide) (fun c569 => absurd c569 (by decide)) (fun _ => ?_)
    refine lv_iconst (v := 0) hx hb dX8_hint_9 (by decide) ?_
    have hM1x := hM1
    have e6 := kh6 (d := decide ((mxI (trM true rr (ix v1) (gs (ix v0)).2.1 (gs (ix v0)).2.2.1 (K, kp, ck, 0, 0)).2.2.2.2 1) ≤ mon (gs (ix v0)).1)) (e := decide (nt < 60)) hKn
    rw [← e6] at hKn hM1x
    exact hm_iret hx hb hr hlocks hS hH (⟨Or.inr ⟨hKn, ⟨_, rfl⟩, K, fun _ _ => rfl, hM1x⟩, hfrn⟩) (Nat.le_of_ble_eq_true rfl) (Nat.le_of_ble_eq_true rfl) dX8_hint_10
