/-! TileWarden: what is only told, isSound -/
set_option maxHeartbeats 4000000 in
set_option maxRecDepth 100000 in
theorem t_X7_entries (Γ : Gm) (l : Launch) (x0 : Nat) (mf : Nat → Int32) (E : Nat → EV) (cn us : Int32) (so sh sm : Int64) (np : Nat) (mon : Nat → Int32) (ng : Nat) (gs : Nat → GS) (nt : Nat) (ts : Nat → TR) (lim : Int32) (rf sp : Int64) (rr : Nat)  (f : Hm) (hC : CW Γ f x0 mf E cn us so sh sm np mon ng gs nt ts lim rf sp rr) (hnp : np ≤ 4) (hng : ng ≤ 8) (hnt : nt ≤ 60) (hr1 : 1 ≤ rr) (hrr : rr ≤ 64) (hgs : GOK np ng gs) : Ct Γ l yX7_entries cX7_entries 1 (some .int) 1 0 0 [.ref x0] f (pI cn f) := by
  refine Ct_of (by decide +kernel) (Nat.le_of_ble_eq_true rfl) ?_
  intro p e s m args below meth c hx hb hr hml hown hin hlocks hts hH hO hK ls hl
  have hl : lv_has ls 1 [(0, .ref x0)] := hl
  have hS : va_S (gA Γ) s.heap s.heap [] := va_S.rf
  obtain ⟨lp, lg, lt, ca, tr, pl, hCL, hCD⟩ := id hC
  obtain ⟨hx0, aP, cp_, P, aG, cg_, G, aT, ct_, T, ⟨hLP, hcP, hP, hPj⟩, ⟨hLG, hcG, hG, hGj⟩, ⟨hLT, hcT, hT⟩, ⟨hpg, hpt, hgt⟩, hPG, hPT, hGT⟩ := id hCL
  obtain ⟨⟨moP, hlP⟩, -⟩ := id hLP
  obtain ⟨⟨moG, hlG⟩, -⟩ := id hLG
  obtain ⟨⟨moT, hlT⟩, -⟩ := id hLT
  obtain ⟨sl, en, ca1, sl1, en1, E1, cn1, rm1, us1, u1, u2, u3, ca2, sl2, hCA, hCA1, htr, hPL, ⟨hca1, hca2, hca12, htrpl⟩, hdis⟩ := id hCD
  refine lv_aload_n hx hb dX7_entries_0 rfl (lv_at hl 0 rfl) ?_
  refine gf_X7_27 hx hb hts hown hK hH hx0 rfl dX7_entries_1 ?_
  refine gf_X7_205 hx hb hts hown hK hH hCA.1 rfl dX7_entries_4 ?_
  exact hm_iret hx hb hr hlocks hS hH (⟨rfl, rfl⟩) (Nat.le_of_ble_eq_true rfl) (Nat.le_of_ble_eq_true rfl) dX7_entries_7
set_option maxHeartbeats 4000000 in
set_option maxRecDepth 100000 in
theorem t_X7_pinned (Γ : Gm) (l : Launch) (x0 : Nat) (mf : Nat → Int32) (E : Nat → EV) (cn us : Int32) (so sh sm : Int64) (np : Nat) (mon : Nat → Int32) (ng : Nat) (gs : Nat → GS) (nt : Nat) (ts : Nat → TR) (lim : Int32) (rf sp : Int64) (rr : Nat)  (f : Hm) (hC : CW Γ f x0 mf E cn us so sh sm np mon ng gs nt ts lim rf sp rr) (hnp : np ≤ 4) (hng : ng ≤ 8) (hnt : nt ≤ 60) (hr1 : 1 ≤ rr) (hrr : rr ≤ 64) (hgs : GOK np ng gs) : Ct Γ l yX7_pinned cX7_pinned 1 (some .int) 2 0 0 [.ref x0] f (pI (nI (cntP (pnB E) 64)) f) := by
  refine Ct_of (by decide +kernel) (Nat.le_of_ble_eq_true rfl) ?_
  intro p e s m args below meth c hx hb hr hml hown hin hlocks hts hH hO hK ls hl
  have hl : lv_has ls 1 [(0, .ref x0)] := hl
  have hS : va_S (gA Γ) s.heap s.heap [] := va_S.rf
  obtain ⟨lp, lg, lt, ca, tr, pl, hCL, hCD⟩ := id hC
  obtain ⟨hx0, aP, cp_, P, aG, cg_, G, aT, ct_, T, ⟨hLP, hcP, hP, hPj⟩, ⟨hLG, hcG, hG, hGj⟩, ⟨hLT, hcT, hT⟩, ⟨hpg, hpt, hgt⟩, hPG, hPT, hGT⟩ := id hCL
  obtain ⟨⟨moP, hlP⟩, -⟩ := id hLP
  obtain ⟨⟨moG, hlG⟩, -⟩ := id hLG
  obtain ⟨⟨moT, hlT⟩, -⟩ := id hLT
  obtain ⟨sl, en, ca1, sl1, en1, E1, cn1, rm1, us1, u1, u2, u3, ca2, sl2, hCA, hCA1, htr, hPL, ⟨hca1, hca2, hca12, htrpl⟩, hdis⟩ := id hCD
  refine lv_aload_n hx hb dX7_pinned_0 rfl (lv_at hl 0 rfl) ?_
  refine gf_X7_27 hx hb hts hown hK hH hx0 rfl dX7_pinned_1 ?_
  refine hm_callV (rest := []) (k := 1) q4_39 q4_40 q1_5 q4_42 q4_41 rfl nm_X1_countPinned rfl hx hb hml hown hts hK hO hS hH hl.1 hCA.1 (c_X1_countPinned Γ l ca sl 64 en E cn (nI rr) us f hCA (by decide)) ⟨Nat.le_of_ble_eq_true rfl, Nat.le_of_ble_eq_true rfl⟩ ⟨Nat.le_of_ble_eq_true rfl, Nat.le_of_ble_eq_true rfl⟩ rfl (Nat.le_of_ble_eq_true rfl) dX7_pinned_4 (fun v_ f_ H locs hp_ hH hS => ?_)
  obtain ⟨rfl, ef_⟩ := hp_
  rw [ef_] at hH
  clear ef_
  refine W.eq (g2 := F0 m 7 ls [.int (nI (cntP (pnB E) 64))]) rfl ?_
  exact hm_iret hx hb hr hlocks hS hH (⟨rfl, rfl⟩) (Nat.le_of_ble_eq_true rfl) (Nat.le_of_ble_eq_true rfl) dX7_pinned_7
set_option maxHeartbeats 4000000 in
set_option maxRecDepth 100000 in
theorem t_X7_traces (Γ : Gm) (l : Launch) (x0 : Nat) (mf : Nat → Int32) (E : Nat → EV) (cn us : Int32) (so sh sm : Int64) (np : Nat) (mon : Nat → Int32) (ng : Nat) (gs : Nat → GS) (nt : Nat) (ts : Nat → TR) (lim : Int32) (rf sp : Int64) (rr : Nat)  (f : Hm) (hC : CW Γ f x0 mf E cn us so sh sm np mon ng gs nt ts lim rf sp rr) (hnp : np ≤ 4) (hng : ng ≤ 8) (hnt : nt ≤ 60) (hr1 : 1 ≤ rr) (hrr : rr ≤ 64) (hgs : GOK np ng gs) : Ct Γ l yX7_traces cX7_traces 1 (some .int) 2 0 0 [.ref x0] f (pI (nI nt) f) := by
  refine Ct_of (by decide +kernel) (Nat.le_of_ble_eq_true rfl) ?_
  intro p e s m args below meth c hx hb hr hml hown hin hlocks hts hH hO hK ls hl
  have hl : lv_has ls 1 [(0, .ref x0)] := hl
  have hS : va_S (gA Γ) s.heap s.heap [] := va_S.rf
  obtain ⟨lp, lg, lt, ca, tr, pl, hCL, hCD⟩ := id hC
  obtain ⟨hx0, aP, cp_, P, aG, cg_, G, aT, ct_, T, ⟨hLP, hcP, hP, hPj⟩, ⟨hLG, hcG, hG, hGj⟩, ⟨hLT, hcT, hT⟩, ⟨hpg, hpt, hgt⟩, hPG, hPT, hGT⟩ := id hCL
  obtain ⟨⟨moP, hlP⟩, -⟩ := id hLP
  obtain ⟨⟨moG, hlG⟩, -⟩ := id hLG
  obtain ⟨⟨moT, hlT⟩, -⟩ := id hLT
  obtain ⟨sl, en, ca1, sl1, en1, E1, cn1, rm1, us1, u1, u2, u3, ca2, sl2, hCA, hCA1, htr, hPL, ⟨hca1, hca2, hca12, htrpl⟩, hdis⟩ := id hCD
  refine lv_aload_n hx hb dX7_traces_0 rfl (lv_at hl 0 rfl) ?_
  refine gf_X7_19 hx hb hts hown hK hH hx0 rfl dX7_traces_1 ?_
  refine hm_callV (rest := []) (k := 1) q1_210 q1_211 q1_4 q1_213 q1_212 rfl nm_Jx4a65c_size_8abf5 rfl hx hb hml hown hts hK hO hS hH hl.1 hlT (c_size Γ l lt aT ct_ nt T f hLT) ⟨Nat.le_of_ble_eq_true rfl, Nat.le_of_ble_eq_true rfl⟩ ⟨Nat.le_of_ble_eq_true rfl, Nat.le_of_ble_eq_true rfl⟩ rfl (Nat.le_of_ble_eq_true rfl) dX7_traces_4 (fun v_ f_ H locs hp_ hH hS => ?_)
  obtain ⟨rfl, ef_⟩ := hp_
  rw [ef_] at hH
  clear ef_
  refine W.eq (g2 := F0 m 7 ls [.int (nI nt)]) rfl ?_
  exact hm_iret hx hb hr hlocks hS hH (⟨rfl, rfl⟩) (Nat.le_of_ble_eq_true rfl) (Nat.le_of_ble_eq_true rfl) dX7_traces_7
set_option maxHeartbeats 4000000 in
set_option maxRecDepth 100000 in
theorem t_X7_refunds (Γ : Gm) (l : Launch) (x0 : Nat) (mf : Nat → Int32) (E : Nat → EV) (cn us : Int32) (so sh sm : Int64) (np : Nat) (mon : Nat → Int32) (ng : Nat) (gs : Nat → GS) (nt : Nat) (ts : Nat → TR) (lim : Int32) (rf sp : Int64) (rr : Nat)  (f : Hm) (hC : CW Γ f x0 mf E cn us so sh sm np mon ng gs nt ts lim rf sp rr) (hnp : np ≤ 4) (hng : ng ≤ 8) (hnt : nt ≤ 60) (hr1 : 1 ≤ rr) (hrr : rr ≤ 64) (hgs : GOK np ng gs) : Ct Γ l yX7_refunds cX7_refunds 1 (some .long) 1 0 0 [.ref x0] f (pJ rf f) := by
  refine Ct_of (by decide +kernel) (Nat.le_of_ble_eq_true rfl) ?_
  intro p e s m args below meth c hx hb hr hml hown hin hlocks hts hH hO hK ls hl
  have hl : lv_has ls 1 [(0, .ref x0)] := hl
  have hS : va_S (gA Γ) s.heap s.heap [] := va_S.rf
  obtain ⟨lp, lg, lt, ca, tr, pl, hCL, hCD⟩ := id hC
  obtain ⟨hx0, aP, cp_, P, aG, cg_, G, aT, ct_, T, ⟨hLP, hcP, hP, hPj⟩, ⟨hLG, hcG, hG, hGj⟩, ⟨hLT, hcT, hT⟩, ⟨hpg, hpt, hgt⟩, hPG, hPT, hGT⟩ := id hCL
  obtain ⟨⟨moP, hlP⟩, -⟩ := id hLP
  obtain ⟨⟨moG, hlG⟩, -⟩ := id hLG
  obtain ⟨⟨moT, hlT⟩, -⟩ := id hLT
  obtain ⟨sl, en, ca1, sl1, en1, E1, cn1, rm1, us1, u1, u2, u3, ca2, sl2, hCA, hCA1, htr, hPL, ⟨hca1, hca2, hca12, htrpl⟩, hdis⟩ := id hCD
  refine lv_aload_n hx hb dX7_refunds_0 rfl (lv_at hl 0 rfl) ?_
  refine gf_X7_47 hx hb hts hown hK hH hx0 rfl dX7_refunds_1 ?_
  exact hm_lret hx hb hr hlocks hS hH (⟨rfl, rfl⟩) (Nat.le_of_ble_eq_true rfl) (Nat.le_of_ble_eq_true rfl) dX7_refunds_4
set_option maxHeartbeats 4000000 in
set_option maxRecDepth 100000 in
theorem t_X7_isSound (Γ : Gm) (l : Launch) (x0 : Nat) (mf : Nat → Int32) (E : Nat → EV) (cn us : Int32) (so sh sm : Int64) (np : Nat) (mon : Nat → Int32) (ng : Nat) (gs : Nat → GS) (nt : Nat) (ts : Nat → TR) (lim : Int32) (rf sp : Int64) (rr : Nat)  (f : Hm) (hC : CW Γ f x0 mf E cn us so sh sm np mon ng gs nt ts lim rf sp rr) (hnp : np ≤ 4) (hng : ng ≤ 8) (hnt : nt ≤ 60) (hr1 : 1 ≤ rr) (hrr : rr ≤ 64) (hgs : GOK np ng gs) (hok : ∀ j, j < 64 → eok (E j)) (hfree : ∀ j, j < 64 → (E j).2.2.1 = 0 → (E j).2.2.2.2.2.2 = 0) (hrf : rf = sumV gs ng) (hmon : ∀ i, i < np → mon i = mf i - sumP gs i ng) : Ct Γ l yX7_isSound cX7_isSound 1 (some .boolean) 15 0 0 [.ref x0] f (fun v f' => v = some (.int 1) ∧ CW Γ f' x0 mf E cn us so sh sm np mon ng gs nt ts lim rf sp rr ∧ hm_kd kM Γ f f') := by
  refine Ct_of (by decide +kernel) (Nat.le_of_ble_eq_true rfl) ?_
  intro p e s m args below meth c hx hb hr hml hown hin hlocks hts hH hO hK ls hl
  have hl : lv_has ls 1 [(0, .ref x0)] := hl
  have hS : va_S (gA Γ) s.heap s.heap [] := va_S.rf
  obtain ⟨lp, lg, lt, ca, tr, pl, hCL, hCD⟩ := id hC
  obtain ⟨hx0, aP, cp_, P, aG, cg_, G, aT, ct_, T, ⟨hLP, hcP, hP, hPj⟩, ⟨hLG, hcG, hG, hGj⟩, ⟨hLT, hcT, hT⟩, ⟨hpg, hpt, hgt⟩, hPG, hPT, hGT⟩ := id hCL
  obtain ⟨⟨moP, hlP⟩, -⟩ := id hLP
  obtain ⟨⟨moG, hlG⟩, -⟩ := id hLG
  obtain ⟨⟨moT, hlT⟩, -⟩ := id hLT
  obtain ⟨sl, en, ca1, sl1, en1, E1, cn1, rm1, us1, u1, u2, u3, ca2, sl2, hCA, hCA1, htr, hPL, ⟨hca1, hca2, hca12, htrpl⟩, hdis⟩ := id hCD
  have h34 := hm_c34 hK
  refine lv_aload_n hx hb dX7_isSound_0 rfl (lv_at hl 0 rfl) ?_
  obtain ⟨⟨pa, hpl_⟩, ⟨pc_, hc2_⟩, -⟩ := hPL.opn
  refine hm_callV (rest := []) (k := 14) q7_184 q7_186 q1_1 q7_187 q0_39 rfl nm_X7_areEntriesRight rfl hx hb hml hown hts hK hO hS hH hl.1 hx0 (c_areEntriesRight Γ l x0 lp lg lt ca tr pl lim rf so sp sh sm ca2 sl2 sl en E cn (nI rr) us f hx0 hPL hCA hca2 hok hfree) ⟨Nat.le_of_ble_eq_true rfl, Nat.le_of_ble_eq_true rfl⟩ ⟨Nat.le_of_ble_eq_true rfl, Nat.le_of_ble_eq_true rfl⟩ rfl (Nat.le_of_ble_eq_true rfl) dX7_isSound_1 (fun v_ f3_ H locs hp_ hH hS => ?_)
  obtain ⟨rfl, hPL3, hfr3⟩ := hp_
  refine W.eq (g2 := F0 m 4 ls [.int 1]) rfl ?_
  have hk3 := pS_kd (Γ := Γ) hpl_ hc2_ hfr3
  have hL3 := kX_L hk3 rfl rfl rfl rfl rfl rfl
  have hx3 := hk3 _ _ hx0 rfl
  refine lv_if_eq (tgt := 25) hx hb dX7_isSound_4 (by decide) (fun c1 => absurd c1 (by decide)) (fun _ => ?_)
  refine lv_aload_n hx hb dX7_isSound_7 rfl (lv_at hl 0 rfl) ?_
  refine hm_callV (rest := []) (k := 4) q7_193 q7_195 q1_1 q7_196 q0_41 rfl nm_X7_areRefundsRight rfl hx hb hml hown hts hK hO hS hH hl.1 hx3 (c_areRefundsRight Γ l x0 lp lg lt ca tr pl lim rf so sp sh sm aG cg_ ng G P gs f3_ hx3 (hLG.kpt h34 hL3) (by omega) (by omega) (fun j hj => hk3 _ _ (hG j hj) rfl) hrf) ⟨Nat.le_of_ble_eq_true rfl, Nat.le_of_ble_eq_true rfl⟩ ⟨Nat.le_of_ble_eq_true rfl, Nat.le_of_ble_eq_true rfl⟩ rfl (Nat.le_of_ble_eq_true rfl) dX7_isSound_8 (fun v_ f_ H locs hp_ hH hS => ?_)
  obtain ⟨rfl, ef_⟩ := hp_
  rw [ef_] at hH
  clear ef_
  refine W.eq (g2 := F0 m 11 ls [.int 1]) rfl ?_
  refine lv_if_eq (tgt := 25) hx hb dX7_isSound_11 (by decide) (fun c2 => absurd c2 (by decide)) (fun _ => ?_)
  refine lv_aload_n hx hb dX7_isSound_14 rfl (lv_at hl 0 rfl) ?_
  refine hm_callV (rest := []) (k := 5) q7_197 q7_199 q1_1 q7_200 q0_42 rfl nm_X7_arePursesRight rfl hx hb hml hown hts hK hO hS hH hl.1 hx3 (c_arePursesRight Γ l x0 lp lg lt ca tr pl lim rf so sp sh sm aP cp_ np mf mon aG cg_ ng G P gs f3_ hx3 (hLP.kpt h34 hL3) (by omega) (by omega) (fun j hj => hk3 _ _ (hP j hj) rfl) (hLG.kpt h34 hL3) (by omega) (by omega) (fun j hj => hk3 _ _ (hG j hj) rfl) (fun j hj => (hgs j hj).1) hPj hmon) ⟨Nat.le_of_ble_eq_true rfl, Nat.le_of_ble_eq_true rfl⟩ ⟨Nat.le_of_ble_eq_true rfl, Nat.le_of_ble_eq_true rfl⟩ rfl (Nat.le_of_ble_eq_true rfl) dX7_isSound_15 (fun v_ f_ H locs hp_ hH hS => ?_)
  obtain ⟨rfl, ef_⟩ := hp_
  rw [ef_] at hH
  clear ef_
  refine W.eq (g2 := F0 m 18 ls [.int 1]) rfl ?_
  refine lv_if_eq (tgt := 25) hx hb dX7_isSound_18 (by decide) (fun c3 => absurd c3 (by decide)) (fun _ => ?_)
  refine lv_iconst (v := 1) hx hb dX7_isSound_21 (by decide) ?_
  refine lv_goto (tgt := 26) hx hb dX7_isSound_22 (by decide) ?_
  exact hm_zret hx hb hr rfl hlocks hS hH (⟨rfl, ⟨lp, lg, lt, ca, tr, pl, hCL.kpt h34 hL3, ⟨sl, en, ca1, sl1, en1, E1, cn1, rm1, us1, u1, u2, u3, ca2, sl2, pS_CA hCA hpl_ hc2_ hca2 hfr3, pS_CA hCA1 hpl_ hc2_ hca12 hfr3, (hfr3 _ (by rintro (z | z); exact htrpl z; exact r_ne htr hc2_ (by decide) z)).trans htr, hPL3, ⟨hca1, hca2, hca12, htrpl⟩, hdis⟩⟩, kX_M hk3 rfl rfl⟩) (Nat.le_of_ble_eq_true rfl) (Nat.le_of_ble_eq_true rfl) dX7_isSound_26
