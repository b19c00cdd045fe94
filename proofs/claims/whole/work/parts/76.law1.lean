/-! the law: its wrappers -/
set_option maxHeartbeats 4000000 in
set_option maxRecDepth 100000 in
theorem l_addPlayer (Γ : Gm) (l : Launch) (x0 : Nat) (mf : Nat → Int32) (E : Nat → EV) (cn us : Int32) (so sh sm : Int64) (np : Nat) (mon : Nat → Int32) (ng : Nat) (gs : Nat → GS) (nt : Nat) (ts : Nat → TR) (lim : Int32) (rf sp : Int64) (rr : Nat) (o : Nat) (g0 : Nat → Int64) (v0 : Int32) (f : Hm) (hst : l.stackTraces = false) (hC : CW Γ f x0 mf E cn us so sh sm np mon ng gs nt ts lim rf sp rr) (hnp : np ≤ 4) (hng : ng ≤ 8) (hnt : nt ≤ 60) (hr1 : 1 ≤ rr) (hrr : rr ≤ 64) (hgs : GOK np ng gs) (ho : f o = some (eJ Γ 1 g0)) : CtW Γ l yL_addPlayer cL_addPlayer 4 (some .int) [(0, 9, 12, 13), (0, 9, 15, 15)] 8 2 100 [.ref x0, .int v0, .ref o] f (wP (if inR v0 0 9999 then (if decide (np < 4) then 0 else 2) else 1) (nI np) Γ o f (fun f' => CW Γ f' x0 ((upd mf np v0)) E cn us so sh sm ((np + 1)) ((upd mon np v0)) ng gs nt ts lim rf sp rr) (fun f' => CW Γ f' x0 mf E cn us so sh sm np mon ng gs nt ts lim rf sp rr)) := by
  refine CtW_of (by decide +kernel) (Nat.le_of_ble_eq_true rfl) ?_
  intro p e s m args below meth c hx hb hr hml hown hlocks htab hts hH hO hK ls hl
  obtain ⟨lp, lg, lt, ca, tr, pl, ⟨hx0, -⟩, -⟩ := id hC
  have h34 := hm_c34 hK
  have hl : lv_has ls 4 [(0, .ref x0), (1, .int v0), (2, .ref o)] := hl
  have hS : va_S (gA Γ) s.heap s.heap [] := va_S.rf
  refine lv_aload_n hx hb dL_addPlayer_0 rfl (lv_at hl 2 rfl) ?_
  refine lv_iconst (v := 0) hx hb dL_addPlayer_1 (by decide) ?_
  refine lv_aload_n hx hb dL_addPlayer_2 rfl (lv_at hl 0 rfl) ?_
  refine lv_iload_n hx hb dL_addPlayer_3 rfl (lv_at hl 1 rfl) ?_
  refine hm_xVW (rest := [.int 0, .ref o]) (k := 7) q2_91 q2_92 q1_1 q2_94 q2_93 rfl nm_X7_addPlayer rfl hx hb hml hown hts hK hO hS hH hl.1 hx0 (t_X7_addPlayer Γ l x0 mf E cn us so sh sm np mon ng gs nt ts lim rf sp rr v0 f hst hC hnp hng hnt hr1 hrr hgs ) ⟨Nat.le_of_ble_eq_true rfl, Nat.le_of_ble_eq_true rfl⟩ ⟨Nat.le_of_ble_eq_true rfl, Nat.le_of_ble_eq_true rfl⟩ rfl (Nat.le_of_ble_eq_true rfl) dL_addPlayer_4 (fun E ce q9 f1_ H locs hp_ hH hS h4 h5 h6 => ?_) (fun v_ f1_ H locs hp_ hH hS => ?_)
  · obtain ⟨hk, hin, hN, hkM⟩ := hp_
    have hoe : f1_ o = some (eJ Γ 1 g0) := hkM _ _ ho rfl
    rcases hin with ⟨hE, hk2⟩ | ⟨hE, hk2⟩ | hF
    · have hE2 : "java/lang/IllegalArgumentException" = E := hE
      subst hE2
      have hk3 : (1 : Int32) = _ := hk2
      refine hm_catch (own := "TileWardenLaw") (name := "java/lang/IllegalArgumentException") hown hts hK [] { startPc := 0, endPc := 9, handlerPc := 12, catchType := 13 } [{ startPc := 0, endPc := 9, handlerPc := 15, catchType := 15 }] (htab.trans rfl) (fun z hz => by exact absurd hz List.not_mem_nil) rfl (by decide) q2_89 (by decide +kernel) h4 h5 h6 ?_
      refine lv_astore_n (lv' := [(3, .ref q9), (0, .ref x0), (1, .int v0), (2, .ref o)]) hx hb dL_addPlayer_12 rfl hl (by decide) rfl (fun ls hl => ?_)
      refine lv_iconst (v := 1) hx hb dL_addPlayer_13 (by decide) ?_
      exact hm_iret hx hb hr hlocks hS hH (⟨Or.inr ⟨hk, congrArg (fun q => some (Value.int q)) hk3, ⟨_, hoe⟩, hN⟩, hm_kO.of hkM⟩) (Nat.le_of_ble_eq_true rfl) (Nat.le_of_ble_eq_true rfl) dL_addPlayer_14
    · have hE2 : "java/lang/IllegalStateException" = E := hE
      subst hE2
      have hk3 : (2 : Int32) = _ := hk2
      refine hm_catch (own := "TileWardenLaw") (name := "java/lang/IllegalStateException") hown hts hK [{ startPc := 0, endPc := 9, handlerPc := 12, catchType := 13 }] { startPc := 0, endPc := 9, handlerPc := 15, catchType := 15 } [] (htab.trans rfl) (fun z hz => by rcases List.mem_cons.mp hz with rfl | hz; exact ⟨by decide, "java/lang/IllegalArgumentException", q2_89, by decide +kernel⟩; exact absurd hz List.not_mem_nil) rfl (by decide) q2_90 (by decide +kernel) h4 h5 h6 ?_
      refine lv_astore_n (lv' := [(3, .ref q9), (0, .ref x0), (1, .int v0), (2, .ref o)]) hx hb dL_addPlayer_15 rfl hl (by decide) rfl (fun ls hl => ?_)
      refine lv_iconst (v := 2) hx hb dL_addPlayer_16 (by decide) ?_
      exact hm_iret hx hb hr hlocks hS hH (⟨Or.inr ⟨hk, congrArg (fun q => some (Value.int q)) hk3, ⟨_, hoe⟩, hN⟩, hm_kO.of hkM⟩) (Nat.le_of_ble_eq_true rfl) (Nat.le_of_ble_eq_true rfl) dL_addPlayer_17
    · exact hF.elim
  obtain ⟨hk, rfl, hN, hkM⟩ := hp_
  have hoe : f1_ o = some (eJ Γ 1 g0) := hkM _ _ ho rfl
  obtain ⟨A_, eA_⟩ : ∃ A_, A_ = nI np := ⟨_, rfl⟩
  refine W.eq (g2 := F0 m 7 ls [.int A_, .int 0, .ref o]) (by rw [eA_]; rfl) ?_
  refine lv_i2l hx hb dL_addPlayer_7 rfl ?_
  refine lv_topl (fun v1 ev1 => ?_)
  refine hm_last hx hb hK hO hS hH hoe (by unfold vp_in; decide) dL_addPlayer_8 (fun H locs hH hS => ?_)
  rw [show (0 : Int32).toNatClampNeg = 0 from rfl] at hH
  obtain ⟨f2, ef2⟩ : ∃ zz_, zz_ = hm_up f1_ o (eJ Γ 1 (vp_updL g0 0 v1)) := ⟨_, rfl⟩
  have hH : hm_H Γ f2 H := by rw [ef2]; exact hH
  have h3 : f2 o = some (eJ Γ 1 (vp_updL g0 0 v1)) := by rw [ef2]; exact hm_us
  refine lv_goto (tgt := 18) hx hb dL_addPlayer_9 (by decide) ?_
  refine lv_iconst (v := 0) hx hb dL_addPlayer_18 (by decide) ?_
  subst ef2
  subst ev1
  exact hm_iret hx hb hr hlocks hS hH (⟨Or.inl ⟨hk, rfl, ⟨_, hm_us, by rw [eA_]; rfl⟩, CW.kpt hN h34 (hm_kd.up hoe rfl)⟩, (hm_kO.of hkM).up⟩) (Nat.le_of_ble_eq_true rfl) (Nat.le_of_ble_eq_true rfl) dL_addPlayer_19
set_option maxHeartbeats 4000000 in
set_option maxRecDepth 100000 in
theorem l_open (Γ : Gm) (l : Launch) (x0 : Nat) (mf : Nat → Int32) (E : Nat → EV) (cn us : Int32) (so sh sm : Int64) (np : Nat) (mon : Nat → Int32) (ng : Nat) (gs : Nat → GS) (nt : Nat) (ts : Nat → TR) (lim : Int32) (rf sp : Int64) (rr : Nat) (o : Nat) (g0 : Nat → Int64) (v0 v1 : Int32) (f : Hm) (hst : l.stackTraces = false) (hC : CW Γ f x0 mf E cn us so sh sm np mon ng gs nt ts lim rf sp rr) (hnp : np ≤ 4) (hng : ng ≤ 8) (hnt : nt ≤ 60) (hr1 : 1 ≤ rr) (hrr : rr ≤ 64) (hgs : GOK np ng gs) (ho : f o = some (eJ Γ 1 g0)) : CtW Γ l yL_open cL_open 5 (some .int) [(0, 10, 13, 21), (0, 10, 17, 13), (0, 10, 21, 15)] 8 3 112 [.ref x0, .int v0, .int v1, .ref o] f (wP (if inB v0 (nI np) then (if decide (0 ≤ v1) then (if decide (ng < 8) then 0 else 3) else 2) else 1) (nI ng) Γ o f (fun f' => CW Γ f' x0 mf E cn us so sh sm np mon ((ng + 1)) ((setG gs ng (ix v0, newB (ix v1), newZ (ix v1), 0, 0, 0, 0, 0, false))) nt ts lim rf sp rr) (fun f' => CW Γ f' x0 mf E cn us so sh sm np mon ng gs nt ts lim rf sp rr)) := by
  refine CtW_of (by decide +kernel) (Nat.le_of_ble_eq_true rfl) ?_
  intro p e s m args below meth c hx hb hr hml hown hlocks htab hts hH hO hK ls hl
  obtain ⟨lp, lg, lt, ca, tr, pl, ⟨hx0, -⟩, -⟩ := id hC
  have h34 := hm_c34 hK
  have hl : lv_has ls 5 [(0, .ref x0), (1, .int v0), (2, .int v1), (3, .ref o)] := hl
  have hS : va_S (gA Γ) s.heap s.heap [] := va_S.rf
  refine lv_aload_n hx hb dL_open_0 rfl (lv_at hl 3 rfl) ?_
  refine lv_iconst (v := 0) hx hb dL_open_1 (by decide) ?_
  refine lv_aload_n hx hb dL_open_2 rfl (lv_at hl 0 rfl) ?_
  refine lv_iload_n hx hb dL_open_3 rfl (lv_at hl 1 rfl) ?_
  refine lv_iload_n hx hb dL_open_4 rfl (lv_at hl 2 rfl) ?_
  refine hm_xVW (rest := [.int 0, .ref o]) (k := 7) q3_50 q3_51 q1_1 q3_53 q3_52 rfl nm_X7_open rfl hx hb hml hown hts hK hO hS hH hl.1 hx0 (t_X7_open Γ l x0 mf E cn us so sh sm np mon ng gs nt ts lim rf sp rr v0 v1 f hst hC hnp hng hnt hr1 hrr hgs ) ⟨Nat.le_of_ble_eq_true rfl, Nat.le_of_ble_eq_true rfl⟩ ⟨Nat.le_of_ble_eq_true rfl, Nat.le_of_ble_eq_true rfl⟩ rfl (Nat.le_of_ble_eq_true rfl) dL_open_5 (fun E ce q9 f1_ H locs hp_ hH hS h4 h5 h6 => ?_) (fun v_ f1_ H locs hp_ hH hS => ?_)
  · obtain ⟨hk, hin, hN, hkM⟩ := hp_
    have hoe : f1_ o = some (eJ Γ 1 g0) := hkM _ _ ho rfl
    rcases hin with ⟨hE, hk2⟩ | ⟨hE, hk2⟩ | ⟨hE, hk2⟩ | hF
    · have hE2 : "java/lang/IndexOutOfBoundsException" = E := hE
      subst hE2
      have hk3 : (1 : Int32) = _ := hk2
      refine hm_catch (own := "TileWardenLaw") (name := "java/lang/IndexOutOfBoundsException") hown hts hK [] { startPc := 0, endPc := 10, handlerPc := 13, catchType := 21 } [{ startPc := 0, endPc := 10, handlerPc := 17, catchType := 13 }, { startPc := 0, endPc := 10, handlerPc := 21, catchType := 15 }] (htab.trans rfl) (fun z hz => by exact absurd hz List.not_mem_nil) rfl (by decide) q3_26 (by decide +kernel) h4 h5 h6 ?_
      refine lv_astore (lv' := [(4, .ref q9), (0, .ref x0), (1, .int v0), (2, .int v1), (3, .ref o)]) hx hb dL_open_13 hl (by decide) rfl (fun ls hl => ?_)
      refine lv_iconst (v := 1) hx hb dL_open_15 (by decide) ?_
      exact hm_iret hx hb hr hlocks hS hH (⟨Or.inr ⟨hk, congrArg (fun q => some (Value.int q)) hk3, ⟨_, hoe⟩, hN⟩, hm_kO.of hkM⟩) (Nat.le_of_ble_eq_true rfl) (Nat.le_of_ble_eq_true rfl) dL_open_16
    · have hE2 : "java/lang/IllegalArgumentException" = E := hE
      subst hE2
      have hk3 : (2 : Int32) = _ := hk2
      refine hm_catch (own := "TileWardenLaw") (name := "java/lang/IllegalArgumentException") hown hts hK [{ startPc := 0, endPc := 10, handlerPc := 13, catchType := 21 }] { startPc := 0, endPc := 10, handlerPc := 17, catchType := 13 } [{ startPc := 0, endPc := 10, handlerPc := 21, catchType := 15 }] (htab.trans rfl) (fun z hz => by rcases List.mem_cons.mp hz with rfl | hz; exact ⟨by decide, "java/lang/IndexOutOfBoundsException", q3_26, by decide +kernel⟩; exact absurd hz List.not_mem_nil) rfl (by decide) q2_89 (by decide +kernel) h4 h5 h6 ?_
      refine lv_astore (lv' := [(4, .ref q9), (0, .ref x0), (1, .int v0), (2, .int v1), (3, .ref o)]) hx hb dL_open_17 hl (by decide) rfl (fun ls hl => ?_)
      refine lv_iconst (v := 2) hx hb dL_open_19 (by decide) ?_
      exact hm_iret hx hb hr hlocks hS hH (⟨Or.inr ⟨hk, congrArg (fun q => some (Value.int q)) hk3, ⟨_, hoe⟩, hN⟩, hm_kO.of hkM⟩) (Nat.le_of_ble_eq_true rfl) (Nat.le_of_ble_eq_true rfl) dL_open_20
    · have hE2 : "java/lang/IllegalStateException" = E := hE
      subst hE2
      have hk3 : (3 : Int32) = _ := hk2
      refine hm_catch (own := "TileWardenLaw") (name := "java/lang/IllegalStateException") hown hts hK [{ startPc := 0, endPc := 10, handlerPc := 13, catchType := 21 }, { startPc := 0, endPc := 10, handlerPc := 17, catchType := 13 }] { startPc := 0, endPc := 10, handlerPc := 21, catchType := 15 } [] (htab.trans rfl) (fun z hz => by rcases List.mem_cons.mp hz with rfl | hz; exact ⟨by decide, "java/lang/IndexOutOfBoundsException", q3_26, by decide +kernel⟩; rcases List.mem_cons.mp hz with rfl | hz; exact ⟨by decide, "java/lang/IllegalArgumentException", q2_89, by decide +kernel⟩; exact absurd hz List.not_mem_nil) rfl (by decide) q2_90 (by decide +kernel) h4 h5 h6 ?_
      refine lv_astore (lv' := [(4, .ref q9), (0, .ref x0), (1, .int v0), (2, .int v1), (3, .ref o)]) hx hb dL_open_21 hl (by decide) rfl (fun ls hl => ?_)
      refine lv_iconst (v := 3) hx hb dL_open_23 (by decide) ?_
      exact hm_iret hx hb hr hlocks hS hH (⟨Or.inr ⟨hk, congrArg (fun q => some (Value.int q)) hk3, ⟨_, hoe⟩, hN⟩, hm_kO.of hkM⟩) (Nat.le_of_ble_eq_true rfl) (Nat.le_of_ble_eq_true rfl) dL_open_24
    · exact hF.elim
  obtain ⟨hk, rfl, hN, hkM⟩ := hp_
  have hoe : f1_ o = some (eJ Γ 1 g0) := hkM _ _ ho rfl
  obtain ⟨A_, eA_⟩ : ∃ A_, A_ = nI ng := ⟨_, rfl⟩
  refine W.eq (g2 := F0 m 8 ls [.int A_, .int 0, .ref o]) (by rw [eA_]; rfl) ?_
  refine lv_i2l hx hb dL_open_8 rfl ?_
  refine lv_topl (fun v1 ev1 => ?_)
  refine hm_last hx hb hK hO hS hH hoe (by unfold vp_in; decide) dL_open_9 (fun H locs hH hS => ?_)
  rw [show (0 : Int32).toNatClampNeg = 0 from rfl] at hH
  obtain ⟨f2, ef2⟩ : ∃ zz_, zz_ = hm_up f1_ o (eJ Γ 1 (vp_updL g0 0 v1)) := ⟨_, rfl⟩
  have hH : hm_H Γ f2 H := by rw [ef2]; exact hH
  have h3 : f2 o = some (eJ Γ 1 (vp_updL g0 0 v1)) := by rw [ef2]; exact hm_us
  refine lv_goto (tgt := 25) hx hb dL_open_10 (by decide) ?_
  refine lv_iconst (v := 0) hx hb dL_open_25 (by decide) ?_
  subst ef2
  subst ev1
  exact hm_iret hx hb hr hlocks hS hH (⟨Or.inl ⟨hk, rfl, ⟨_, hm_us, by rw [eA_]; rfl⟩, CW.kpt hN h34 (hm_kd.up hoe rfl)⟩, (hm_kO.of hkM).up⟩) (Nat.le_of_ble_eq_true rfl) (Nat.le_of_ble_eq_true rfl) dL_open_26
set_option maxHeartbeats 4000000 in
set_option maxRecDepth 100000 in
theorem l_push (Γ : Gm) (l : Launch) (x0 : Nat) (mf : Nat → Int32) (E : Nat → EV) (cn us : Int32) (so sh sm : Int64) (np : Nat) (mon : Nat → Int32) (ng : Nat) (gs : Nat → GS) (nt : Nat) (ts : Nat → TR) (lim : Int32) (rf sp : Int64) (rr : Nat) (o : Nat) (g0 : Nat → Int64) (v0 v1 : Int32) (f : Hm) (hst : l.stackTraces = false) (hC : CW Γ f x0 mf E cn us so sh sm np mon ng gs nt ts lim rf sp rr) (hnp : np ≤ 4) (hng : ng ≤ 8) (hnt : nt ≤ 60) (hr1 : 1 ≤ rr) (hrr : rr ≤ 64) (hgs : GOK np ng gs) (ho : f o = some (eJ Γ 1 g0)) : CtW Γ l yL_push cL_push 5 (some .int) [(0, 10, 13, 21), (0, 10, 17, 13), (0, 10, 21, 26)] 9 3 18 [.ref x0, .int v0, .int v1, .ref o] f (wP (if inB v0 (nI ng) then (if inB v1 4 then (if (!(gs (ix v0)).2.2.2.2.2.2.2.2 && goN (gs (ix v0)).2.1 (ix v1)) then 0 else 3) else 2) else 1) (nI (gainT (gs (ix v0)).2.1 (ix v1))) Γ o f (fun f' => CW Γ f' x0 mf E cn us so sh sm np mon ng ((setG gs (ix v0) ((gs (ix v0)).1, drawT (pushT (gs (ix v0)).2.1 (ix v1)) (gs (ix v0)).2.2.1, nxt (nxt (gs (ix v0)).2.2.1), (gs (ix v0)).2.2.2.1 + nI (gainT (gs (ix v0)).2.1 (ix v1)), (gs (ix v0)).2.2.2.2.1 + 1, (if (folB (fun i => tx5 (ts i)) (b5 (gs (ix v0)).2.1) (nI (gs (ix v0)).2.2.1) (nI (gs (ix v0)).1) v1 nt) then (gs (ix v0)).2.2.2.2.2.1 + 1 else 0), mxI (gs (ix v0)).2.2.2.2.2.2.1 (if (folB (fun i => tx5 (ts i)) (b5 (gs (ix v0)).2.1) (nI (gs (ix v0)).2.2.1) (nI (gs (ix v0)).1) v1 nt) then (gs (ix v0)).2.2.2.2.2.1 + 1 else 0), (gs (ix v0)).2.2.2.2.2.2.2.1, (gs (ix v0)).2.2.2.2.2.2.2.2))) nt ts lim rf sp rr) (fun f' => CW Γ f' x0 mf E cn us so sh sm np mon ng gs nt ts lim rf sp rr)) := by
  refine CtW_of (by decide +kernel) (Nat.le_of_ble_eq_true rfl) ?_
  intro p e s m args below meth c hx hb hr hml hown hlocks htab hts hH hO hK ls hl
  obtain ⟨lp, lg, lt, ca, tr, pl, ⟨hx0, -⟩, -⟩ := id hC
  have h34 := hm_c34 hK
  have hl : lv_has ls 5 [(0, .ref x0), (1, .int v0), (2, .int v1), (3, .ref o)] := hl
  have hS : va_S (gA Γ) s.heap s.heap [] := va_S.rf
  refine lv_aload_n hx hb dL_push_0 rfl (lv_at hl 3 rfl) ?_
  refine lv_iconst (v := 0) hx hb dL_push_1 (by decide) ?_
  refine lv_aload_n hx hb dL_push_2 rfl (lv_at hl 0 rfl) ?_
  refine lv_iload_n hx hb dL_push_3 rfl (lv_at hl 1 rfl) ?_
  refine lv_iload_n hx hb dL_push_4 rfl (lv_at hl 2 rfl) ?_
  refine hm_xVW (rest := [.int 0, .ref o]) (k := 8) q3_127 q3_128 q1_1 q3_130 q3_129 rfl nm_X7_push rfl hx hb hml hown hts hK hO hS hH hl.1 hx0 (t_X7_push Γ l x0 mf E cn us so sh sm np mon ng gs nt ts lim rf sp rr v0 v1 f hst hC hnp hng hnt hr1 hrr hgs ) ⟨Nat.le_of_ble_eq_true rfl, Nat.le_of_ble_eq_true rfl⟩ ⟨Nat.le_of_ble_eq_true rfl, Nat.le_of_ble_eq_true rfl⟩ rfl (Nat.le_of_ble_eq_true rfl) dL_push_5 (fun E ce q9 f1_ H locs hp_ hH hS h4 h5 h6 => ?_) (fun v_ f1_ H locs hp_ hH hS => ?_)
  · obtain ⟨hk, hin, hN, hkM⟩ := hp_
    have hoe : f1_ o = some (eJ Γ 1 g0) := hkM _ _ ho rfl
    rcases hin with ⟨hE, hk2⟩ | ⟨hE, hk2⟩ | ⟨hE, hk2⟩ | hF
    · have hE2 : "java/lang/IndexOutOfBoundsException" = E := hE
      subst hE2
      have hk3 : (1 : Int32) = _ := hk2
      refine hm_catch (own := "TileWardenLaw") (name := "java/lang/IndexOutOfBoundsException") hown hts hK [] { startPc := 0, endPc := 10, handlerPc := 13, catchType := 21 } [{ startPc := 0, endPc := 10, handlerPc := 17, catchType := 13 }, { startPc := 0, endPc := 10, handlerPc := 21, catchType := 26 }] (htab.trans rfl) (fun z hz => by exact absurd hz List.not_mem_nil) rfl (by decide) q3_26 (by decide +kernel) h4 h5 h6 ?_
      refine lv_astore (lv' := [(4, .ref q9), (0, .ref x0), (1, .int v0), (2, .int v1), (3, .ref o)]) hx hb dL_push_13 hl (by decide) rfl (fun ls hl => ?_)
      refine lv_iconst (v := 1) hx hb dL_push_15 (by decide) ?_
      exact hm_iret hx hb hr hlocks hS hH (⟨Or.inr ⟨hk, congrArg (fun q => some (Value.int q)) hk3, ⟨_, hoe⟩, hN⟩, hm_kO.of hkM⟩) (Nat.le_of_ble_eq_true rfl) (Nat.le_of_ble_eq_true rfl) dL_push_16
    · have hE2 : "java/lang/IllegalArgumentException" = E := hE
      subst hE2
      have hk3 : (2 : Int32) = _ := hk2
      refine hm_catch (own := "TileWardenLaw") (name := "java/lang/IllegalArgumentException") hown hts hK [{ startPc := 0, endPc := 10, handlerPc := 13, catchType := 21 }] { startPc := 0, endPc := 10, handlerPc := 17, catchType := 13 } [{ startPc := 0, endPc := 10, handlerPc := 21, catchType := 26 }] (htab.trans rfl) (fun z hz => by rcases List.mem_cons.mp hz with rfl | hz; exact ⟨by decide, "java/lang/IndexOutOfBoundsException", q3_26, by decide +kernel⟩; exact absurd hz List.not_mem_nil) rfl (by decide) q2_89 (by decide +kernel) h4 h5 h6 ?_
      refine lv_astore (lv' := [(4, .ref q9), (0, .ref x0), (1, .int v0), (2, .int v1), (3, .ref o)]) hx hb dL_push_17 hl (by decide) rfl (fun ls hl => ?_)
      refine lv_iconst (v := 2) hx hb dL_push_19 (by decide) ?_
      exact hm_iret hx hb hr hlocks hS hH (⟨Or.inr ⟨hk, congrArg (fun q => some (Value.int q)) hk3, ⟨_, hoe⟩, hN⟩, hm_kO.of hkM⟩) (Nat.le_of_ble_eq_true rfl) (Nat.le_of_ble_eq_true rfl) dL_push_20
    · have hE2 : "java/lang/UnsupportedOperationException" = E := hE
      subst hE2
      have hk3 : (3 : Int32) = _ := hk2
      refine hm_catch (own := "TileWardenLaw") (name := "java/lang/UnsupportedOperationException") hown hts hK [{ startPc := 0, endPc := 10, handlerPc := 13, catchType := 21 }, { startPc := 0, endPc := 10, handlerPc := 17, catchType := 13 }] { startPc := 0, endPc := 10, handlerPc := 21, catchType := 26 } [] (htab.trans rfl) (fun z hz => by rcases List.mem_cons.mp hz with rfl | hz; exact ⟨by decide, "java/lang/IndexOutOfBoundsException", q3_26, by decide +kernel⟩; rcases List.mem_cons.mp hz with rfl | hz; exact ⟨by decide, "java/lang/IllegalArgumentException", q2_89, by decide +kernel⟩; exact absurd hz List.not_mem_nil) rfl (by decide) q3_126 (by decide +kernel) h4 h5 h6 ?_
      refine lv_astore (lv' := [(4, .ref q9), (0, .ref x0), (1, .int v0), (2, .int v1), (3, .ref o)]) hx hb dL_push_21 hl (by decide) rfl (fun ls hl => ?_)
      refine lv_iconst (v := 3) hx hb dL_push_23 (by decide) ?_
      exact hm_iret hx hb hr hlocks hS hH (⟨Or.inr ⟨hk, congrArg (fun q => some (Value.int q)) hk3, ⟨_, hoe⟩, hN⟩, hm_kO.of hkM⟩) (Nat.le_of_ble_eq_true rfl) (Nat.le_of_ble_eq_true rfl) dL_push_24
    · exact hF.elim
  obtain ⟨hk, rfl, hN, hkM⟩ := hp_
  have hoe : f1_ o = some (eJ Γ 1 g0) := hkM _ _ ho rfl
  obtain ⟨A_, eA_⟩ : ∃ A_, A_ = nI (gainT (gs (ix v0)).2.1 (ix v1)) := ⟨_, rfl⟩
  refine W.eq (g2 := F0 m 8 ls [.int A_, .int 0, .ref o]) (by rw [eA_]; rfl) ?_
  refine lv_i2l hx hb dL_push_8 rfl ?_
  refine lv_topl (fun v1 ev1 => ?_)
  refine hm_last hx hb hK hO hS hH hoe (by unfold vp_in; decide) dL_push_9 (fun H locs hH hS => ?_)
  rw [show (0 : Int32).toNatClampNeg = 0 from rfl] at hH
  obtain ⟨f2, ef2⟩ : ∃ zz_, zz_ = hm_up f1_ o (eJ Γ 1 (vp_updL g0 0 v1)) := ⟨_, rfl⟩
  have hH : hm_H Γ f2 H := by rw [ef2]; exact hH
  have h3 : f2 o = some (eJ Γ 1 (vp_updL g0 0 v1)) := by rw [ef2]; exact hm_us
  refine lv_goto (tgt := 25) hx hb dL_push_10 (by decide) ?_
  refine lv_iconst (v := 0) hx hb dL_push_25 (by decide) ?_
  subst ef2
  subst ev1
  exact hm_iret hx hb hr hlocks hS hH (⟨Or.inl ⟨hk, rfl, ⟨_, hm_us, by rw [eA_]; rfl⟩, CW.kpt hN h34 (hm_kd.up hoe rfl)⟩, (hm_kO.of hkM).up⟩) (Nat.le_of_ble_eq_true rfl) (Nat.le_of_ble_eq_true rfl) dL_push_26
set_option maxHeartbeats 4000000 in
set_option maxRecDepth 100000 in
theorem l_at (Γ : Gm) (l : Launch) (x0 : Nat) (mf : Nat → Int32) (E : Nat → EV) (cn us : Int32) (so sh sm : Int64) (np : Nat) (mon : Nat → Int32) (ng : Nat) (gs : Nat → GS) (nt : Nat) (ts : Nat → TR) (lim : Int32) (rf sp : Int64) (rr : Nat) (o : Nat) (g0 : Nat → Int64) (v0 v1 v2 : Int32) (f : Hm) (hst : l.stackTraces = false) (hC : CW Γ f x0 mf E cn us so sh sm np mon ng gs nt ts lim rf sp rr) (hnp : np ≤ 4) (hng : ng ≤ 8) (hnt : nt ≤ 60) (hr1 : 1 ≤ rr) (hrr : rr ≤ 64) (hgs : GOK np ng gs) (ho : f o = some (eJ Γ 1 g0)) : CtW Γ l yL_at cL_at 6 (some .int) [(0, 12, 15, 21), (0, 12, 19, 13)] 7 2 12 [.ref x0, .int v0, .int v1, .int v2, .ref o] f (wP (if inB v0 (nI ng) then (if (inB v1 3 && inB v2 3) then 0 else 2) else 1) (nI ((gs (ix v0)).2.1 (3 * ix v1 + ix v2))) Γ o f (fun f' => CW Γ f' x0 mf E cn us so sh sm np mon ng gs nt ts lim rf sp rr) (fun f' => CW Γ f' x0 mf E cn us so sh sm np mon ng gs nt ts lim rf sp rr)) := by
  refine CtW_of (by decide +kernel) (Nat.le_of_ble_eq_true rfl) ?_
  intro p e s m args below meth c hx hb hr hml hown hlocks htab hts hH hO hK ls hl
  obtain ⟨lp, lg, lt, ca, tr, pl, ⟨hx0, -⟩, -⟩ := id hC
  have h34 := hm_c34 hK
  have hl : lv_has ls 6 [(0, .ref x0), (1, .int v0), (2, .int v1), (3, .int v2), (4, .ref o)] := hl
  have hS : va_S (gA Γ) s.heap s.heap [] := va_S.rf
  refine lv_aload hx hb dL_at_0 (lv_at hl 4 rfl) ?_
  refine lv_iconst (v := 0) hx hb dL_at_2 (by decide) ?_
  refine lv_aload_n hx hb dL_at_3 rfl (lv_at hl 0 rfl) ?_
  refine lv_iload_n hx hb dL_at_4 rfl (lv_at hl 1 rfl) ?_
  refine lv_iload_n hx hb dL_at_5 rfl (lv_at hl 2 rfl) ?_
  refine lv_iload_n hx hb dL_at_6 rfl (lv_at hl 3 rfl) ?_
  refine hm_xVW (rest := [.int 0, .ref o]) (k := 6) q3_179 q3_180 q1_1 q3_182 q3_181 rfl nm_X7_at rfl hx hb hml hown hts hK hO hS hH hl.1 hx0 (t_X7_at Γ l x0 mf E cn us so sh sm np mon ng gs nt ts lim rf sp rr v0 v1 v2 f hst hC hnp hng hnt hr1 hrr hgs ) ⟨Nat.le_of_ble_eq_true rfl, Nat.le_of_ble_eq_true rfl⟩ ⟨Nat.le_of_ble_eq_true rfl, Nat.le_of_ble_eq_true rfl⟩ rfl (Nat.le_of_ble_eq_true rfl) dL_at_7 (fun E ce q9 f1_ H locs hp_ hH hS h4 h5 h6 => ?_) (fun v_ f1_ H locs hp_ hH hS => ?_)
  · obtain ⟨hk, hin, hN, hkM⟩ := hp_
    have hoe : f1_ o = some (eJ Γ 1 g0) := hkM _ _ ho rfl
    rcases hin with ⟨hE, hk2⟩ | ⟨hE, hk2⟩ | hF
    · have hE2 : "java/lang/IndexOutOfBoundsException" = E := hE
      subst hE2
      have hk3 : (1 : Int32) = _ := hk2
      refine hm_catch (own := "TileWardenLaw") (name := "java/lang/IndexOutOfBoundsException") hown hts hK [] { startPc := 0, endPc := 12, handlerPc := 15, catchType := 21 } [{ startPc := 0, endPc := 12, handlerPc := 19, catchType := 13 }] (htab.trans rfl) (fun z hz => by exact absurd hz List.not_mem_nil) rfl (by decide) q3_26 (by decide +kernel) h4 h5 h6 ?_
      refine lv_astore (lv' := [(5, .ref q9), (0, .ref x0), (1, .int v0), (2, .int v1), (3, .int v2), (4, .ref o)]) hx hb dL_at_15 hl (by decide) rfl (fun ls hl => ?_)
      refine lv_iconst (v := 1) hx hb dL_at_17 (by decide) ?_
      exact hm_iret hx hb hr hlocks hS hH (⟨Or.inr ⟨hk, congrArg (fun q => some (Value.int q)) hk3, ⟨_, hoe⟩, hN⟩, hm_kO.of hkM⟩) (Nat.le_of_ble_eq_true rfl) (Nat.le_of_ble_eq_true rfl) dL_at_18
    · have hE2 : "java/lang/IllegalArgumentException" = E := hE
      subst hE2
      have hk3 : (2 : Int32) = _ := hk2
      refine hm_catch (own := "TileWardenLaw") (name := "java/lang/IllegalArgumentException") hown hts hK [{ startPc := 0, endPc := 12, handlerPc := 15, catchType := 21 }] { startPc := 0, endPc := 12, handlerPc := 19, catchType := 13 } [] (htab.trans rfl) (fun z hz => by rcases List.mem_cons.mp hz with rfl | hz; exact ⟨by decide, "java/lang/IndexOutOfBoundsException", q3_26, by decide +kernel⟩; exact absurd hz List.not_mem_nil) rfl (by decide) q2_89 (by decide +kernel) h4 h5 h6 ?_
      refine lv_astore (lv' := [(5, .ref q9), (0, .ref x0), (1, .int v0), (2, .int v1), (3, .int v2), (4, .ref o)]) hx hb dL_at_19 hl (by decide) rfl (fun ls hl => ?_)
      refine lv_iconst (v := 2) hx hb dL_at_21 (by decide) ?_
      exact hm_iret hx hb hr hlocks hS hH (⟨Or.inr ⟨hk, congrArg (fun q => some (Value.int q)) hk3, ⟨_, hoe⟩, hN⟩, hm_kO.of hkM⟩) (Nat.le_of_ble_eq_true rfl) (Nat.le_of_ble_eq_true rfl) dL_at_22
    · exact hF.elim
  obtain ⟨hk, rfl, hN, hkM⟩ := hp_
  have hoe : f1_ o = some (eJ Γ 1 g0) := hkM _ _ ho rfl
  obtain ⟨A_, eA_⟩ : ∃ A_, A_ = nI ((gs (ix v0)).2.1 (3 * ix v1 + ix v2)) := ⟨_, rfl⟩
  refine W.eq (g2 := F0 m 10 ls [.int A_, .int 0, .ref o]) (by rw [eA_]; rfl) ?_
  refine lv_i2l hx hb dL_at_10 rfl ?_
  refine lv_topl (fun v1 ev1 => ?_)
  refine hm_last hx hb hK hO hS hH hoe (by unfold vp_in; decide) dL_at_11 (fun H locs hH hS => ?_)
  rw [show (0 : Int32).toNatClampNeg = 0 from rfl] at hH
  obtain ⟨f2, ef2⟩ : ∃ zz_, zz_ = hm_up f1_ o (eJ Γ 1 (vp_updL g0 0 v1)) := ⟨_, rfl⟩
  have hH : hm_H Γ f2 H := by rw [ef2]; exact hH
  have h3 : f2 o = some (eJ Γ 1 (vp_updL g0 0 v1)) := by rw [ef2]; exact hm_us
  refine lv_goto (tgt := 23) hx hb dL_at_12 (by decide) ?_
  refine lv_iconst (v := 0) hx hb dL_at_23 (by decide) ?_
  subst ef2
  subst ev1
  exact hm_iret hx hb hr hlocks hS hH (⟨Or.inl ⟨hk, rfl, ⟨_, hm_us, by rw [eA_]; rfl⟩, CW.kpt hN h34 (hm_kd.up hoe rfl)⟩, (hm_kO.of hkM).up⟩) (Nat.le_of_ble_eq_true rfl) (Nat.le_of_ble_eq_true rfl) dL_at_24
set_option maxHeartbeats 4000000 in
set_option maxRecDepth 100000 in
theorem l_score (Γ : Gm) (l : Launch) (x0 : Nat) (mf : Nat → Int32) (E : Nat → EV) (cn us : Int32) (so sh sm : Int64) (np : Nat) (mon : Nat → Int32) (ng : Nat) (gs : Nat → GS) (nt : Nat) (ts : Nat → TR) (lim : Int32) (rf sp : Int64) (rr : Nat) (o : Nat) (g0 : Nat → Int64) (v0 : Int32) (f : Hm) (hst : l.stackTraces = false) (hC : CW Γ f x0 mf E cn us so sh sm np mon ng gs nt ts lim rf sp rr) (hnp : np ≤ 4) (hng : ng ≤ 8) (hnt : nt ≤ 60) (hr1 : 1 ≤ rr) (hrr : rr ≤ 64) (hgs : GOK np ng gs) (ho : f o = some (eJ Γ 1 g0)) : CtW Γ l yL_score cL_score 4 (some .int) [(0, 9, 12, 21)] 7 1 6 [.ref x0, .int v0, .ref o] f (wP (if inB v0 (nI ng) then 0 else 1) ((gs (ix v0)).2.2.2.1) Γ o f (fun f' => CW Γ f' x0 mf E cn us so sh sm np mon ng gs nt ts lim rf sp rr) (fun f' => CW Γ f' x0 mf E cn us so sh sm np mon ng gs nt ts lim rf sp rr)) := by
  refine CtW_of (by decide +kernel) (Nat.le_of_ble_eq_true rfl) ?_
  intro p e s m args below meth c hx hb hr hml hown hlocks htab hts hH hO hK ls hl
  obtain ⟨lp, lg, lt, ca, tr, pl, ⟨hx0, -⟩, -⟩ := id hC
  have h34 := hm_c34 hK
  have hl : lv_has ls 4 [(0, .ref x0), (1, .int v0), (2, .ref o)] := hl
  have hS : va_S (gA Γ) s.heap s.heap [] := va_S.rf
  refine lv_aload_n hx hb dL_score_0 rfl (lv_at hl 2 rfl) ?_
  refine lv_iconst (v := 0) hx hb dL_score_1 (by decide) ?_
  refine lv_aload_n hx hb dL_score_2 rfl (lv_at hl 0 rfl) ?_
  refine lv_iload_n hx hb dL_score_3 rfl (lv_at hl 1 rfl) ?_
  refine hm_xVW (rest := [.int 0, .ref o]) (k := 6) q3_188 q3_189 q1_1 q3_191 q3_190 rfl nm_X7_score rfl hx hb hml hown hts hK hO hS hH hl.1 hx0 (t_X7_score Γ l x0 mf E cn us so sh sm np mon ng gs nt ts lim rf sp rr v0 f hst hC hnp hng hnt hr1 hrr hgs ) ⟨Nat.le_of_ble_eq_true rfl, Nat.le_of_ble_eq_true rfl⟩ ⟨Nat.le_of_ble_eq_true rfl, Nat.le_of_ble_eq_true rfl⟩ rfl (Nat.le_of_ble_eq_true rfl) dL_score_4 (fun E ce q9 f1_ H locs hp_ hH hS h4 h5 h6 => ?_) (fun v_ f1_ H locs hp_ hH hS => ?_)
  · obtain ⟨hk, hin, hN, hkM⟩ := hp_
    have hoe : f1_ o = some (eJ Γ 1 g0) := hkM _ _ ho rfl
    rcases hin with ⟨hE, hk2⟩ | hF
    · have hE2 : "java/lang/IndexOutOfBoundsException" = E := hE
      subst hE2
      have hk3 : (1 : Int32) = _ := hk2
      refine hm_catch (own := "TileWardenLaw") (name := "java/lang/IndexOutOfBoundsException") hown hts hK [] { startPc := 0, endPc := 9, handlerPc := 12, catchType := 21 } [] (htab.trans rfl) (fun z hz => by exact absurd hz List.not_mem_nil) rfl (by decide) q3_26 (by decide +kernel) h4 h5 h6 ?_
      refine lv_astore_n (lv' := [(3, .ref q9), (0, .ref x0), (1, .int v0), (2, .ref o)]) hx hb dL_score_12 rfl hl (by decide) rfl (fun ls hl => ?_)
      refine lv_iconst (v := 1) hx hb dL_score_13 (by decide) ?_
      exact hm_iret hx hb hr hlocks hS hH (⟨Or.inr ⟨hk, congrArg (fun q => some (Value.int q)) hk3, ⟨_, hoe⟩, hN⟩, hm_kO.of hkM⟩) (Nat.le_of_ble_eq_true rfl) (Nat.le_of_ble_eq_true rfl) dL_score_14
    · exact hF.elim
  obtain ⟨hk, rfl, hN, hkM⟩ := hp_
  have hoe : f1_ o = some (eJ Γ 1 g0) := hkM _ _ ho rfl
  obtain ⟨A_, eA_⟩ : ∃ A_, A_ = (gs (ix v0)).2.2.2.1 := ⟨_, rfl⟩
  refine W.eq (g2 := F0 m 7 ls [.int A_, .int 0, .ref o]) (by rw [eA_]; rfl) ?_
  refine lv_i2l hx hb dL_score_7 rfl ?_
  refine lv_topl (fun v1 ev1 => ?_)
  refine hm_last hx hb hK hO hS hH hoe (by unfold vp_in; decide) dL_score_8 (fun H locs hH hS => ?_)
  rw [show (0 : Int32).toNatClampNeg = 0 from rfl] at hH
  obtain ⟨f2, ef2⟩ : ∃ zz_, zz_ = hm_up f1_ o (eJ Γ 1 (vp_updL g0 0 v1)) := ⟨_, rfl⟩
  have hH : hm_H Γ f2 H := by rw [ef2]; exact hH
  have h3 : f2 o = some (eJ Γ 1 (vp_updL g0 0 v1)) := by rw [ef2]; exact hm_us
  refine lv_goto (tgt := 15) hx hb dL_score_9 (by decide) ?_
  refine lv_iconst (v := 0) hx hb dL_score_15 (by decide) ?_
  subst ef2
  subst ev1
  exact hm_iret hx hb hr hlocks hS hH (⟨Or.inl ⟨hk, rfl, ⟨_, hm_us, by rw [eA_]; rfl⟩, CW.kpt hN h34 (hm_kd.up hoe rfl)⟩, (hm_kO.of hkM).up⟩) (Nat.le_of_ble_eq_true rfl) (Nat.le_of_ble_eq_true rfl) dL_score_16
set_option maxHeartbeats 4000000 in
set_option maxRecDepth 100000 in
theorem l_pushes (Γ : Gm) (l : Launch) (x0 : Nat) (mf : Nat → Int32) (E : Nat → EV) (cn us : Int32) (so sh sm : Int64) (np : Nat) (mon : Nat → Int32) (ng : Nat) (gs : Nat → GS) (nt : Nat) (ts : Nat → TR) (lim : Int32) (rf sp : Int64) (rr : Nat) (o : Nat) (g0 : Nat → Int64) (v0 : Int32) (f : Hm) (hst : l.stackTraces = false) (hC : CW Γ f x0 mf E cn us so sh sm np mon ng gs nt ts lim rf sp rr) (hnp : np ≤ 4) (hng : ng ≤ 8) (hnt : nt ≤ 60) (hr1 : 1 ≤ rr) (hrr : rr ≤ 64) (hgs : GOK np ng gs) (ho : f o = some (eJ Γ 1 g0)) : CtW Γ l yL_pushes cL_pushes 4 (some .int) [(0, 9, 12, 21)] 7 1 6 [.ref x0, .int v0, .ref o] f (wP (if inB v0 (nI ng) then 0 else 1) ((gs (ix v0)).2.2.2.2.1) Γ o f (fun f' => CW Γ f' x0 mf E cn us so sh sm np mon ng gs nt ts lim rf sp rr) (fun f' => CW Γ f' x0 mf E cn us so sh sm np mon ng gs nt ts lim rf sp rr)) := by
  refine CtW_of (by decide +kernel) (Nat.le_of_ble_eq_true rfl) ?_
  intro p e s m args below meth c hx hb hr hml hown hlocks htab hts hH hO hK ls hl
  obtain ⟨lp, lg, lt, ca, tr, pl, ⟨hx0, -⟩, -⟩ := id hC
  have h34 := hm_c34 hK
  have hl : lv_has ls 4 [(0, .ref x0), (1, .int v0), (2, .ref o)] := hl
  have hS : va_S (gA Γ) s.heap s.heap [] := va_S.rf
  refine lv_aload_n hx hb dL_pushes_0 rfl (lv_at hl 2 rfl) ?_
  refine lv_iconst (v := 0) hx hb dL_pushes_1 (by decide) ?_
  refine lv_aload_n hx hb dL_pushes_2 rfl (lv_at hl 0 rfl) ?_
  refine lv_iload_n hx hb dL_pushes_3 rfl (lv_at hl 1 rfl) ?_
  refine hm_xVW (rest := [.int 0, .ref o]) (k := 6) q3_195 q3_196 q1_1 q3_198 q3_197 rfl nm_X7_pushes rfl hx hb hml hown hts hK hO hS hH hl.1 hx0 (t_X7_pushes Γ l x0 mf E cn us so sh sm np mon ng gs nt ts lim rf sp rr v0 f hst hC hnp hng hnt hr1 hrr hgs ) ⟨Nat.le_of_ble_eq_true rfl, Nat.le_of_ble_eq_true rfl⟩ ⟨Nat.le_of_ble_eq_true rfl, Nat.le_of_ble_eq_true rfl⟩ rfl (Nat.le_of_ble_eq_true rfl) dL_pushes_4 (fun E ce q9 f1_ H locs hp_ hH hS h4 h5 h6 => ?_) (fun v_ f1_ H locs hp_ hH hS => ?_)
  · obtain ⟨hk, hin, hN, hkM⟩ := hp_
    have hoe : f1_ o = some (eJ Γ 1 g0) := hkM _ _ ho rfl
    rcases hin with ⟨hE, hk2⟩ | hF
    · have hE2 : "java/lang/IndexOutOfBoundsException" = E := hE
      subst hE2
      have hk3 : (1 : Int32) = _ := hk2
      refine hm_catch (own := "TileWardenLaw") (name := "java/lang/IndexOutOfBoundsException") hown hts hK [] { startPc := 0, endPc := 9, handlerPc := 12, catchType := 21 } [] (htab.trans rfl) (fun z hz => by exact absurd hz List.not_mem_nil) rfl (by decide) q3_26 (by decide +kernel) h4 h5 h6 ?_
      refine lv_astore_n (lv' := [(3, .ref q9), (0, .ref x0), (1, .int v0), (2, .ref o)]) hx hb dL_pushes_12 rfl hl (by decide) rfl (fun ls hl => ?_)
      refine lv_iconst (v := 1) hx hb dL_pushes_13 (by decide) ?_
      exact hm_iret hx hb hr hlocks hS hH (⟨Or.inr ⟨hk, congrArg (fun q => some (Value.int q)) hk3, ⟨_, hoe⟩, hN⟩, hm_kO.of hkM⟩) (Nat.le_of_ble_eq_true rfl) (Nat.le_of_ble_eq_true rfl) dL_pushes_14
    · exact hF.elim
  obtain ⟨hk, rfl, hN, hkM⟩ := hp_
  have hoe : f1_ o = some (eJ Γ 1 g0) := hkM _ _ ho rfl
  obtain ⟨A_, eA_⟩ : ∃ A_, A_ = (gs (ix v0)).2.2.2.2.1 := ⟨_, rfl⟩
  refine W.eq (g2 := F0 m 7 ls [.int A_, .int 0, .ref o]) (by rw [eA_]; rfl) ?_
  refine lv_i2l hx hb dL_pushes_7 rfl ?_
  refine lv_topl (fun v1 ev1 => ?_)
  refine hm_last hx hb hK hO hS hH hoe (by unfold vp_in; decide) dL_pushes_8 (fun H locs hH hS => ?_)
  rw [show (0 : Int32).toNatClampNeg = 0 from rfl] at hH
  obtain ⟨f2, ef2⟩ : ∃ zz_, zz_ = hm_up f1_ o (eJ Γ 1 (vp_updL g0 0 v1)) := ⟨_, rfl⟩
  have hH : hm_H Γ f2 H := by rw [ef2]; exact hH
  have h3 : f2 o = some (eJ Γ 1 (vp_updL g0 0 v1)) := by rw [ef2]; exact hm_us
  refine lv_goto (tgt := 15) hx hb dL_pushes_9 (by decide) ?_
  refine lv_iconst (v := 0) hx hb dL_pushes_15 (by decide) ?_
  subst ef2
  subst ev1
  exact hm_iret hx hb hr hlocks hS hH (⟨Or.inl ⟨hk, rfl, ⟨_, hm_us, by rw [eA_]; rfl⟩, CW.kpt hN h34 (hm_kd.up hoe rfl)⟩, (hm_kO.of hkM).up⟩) (Nat.le_of_ble_eq_true rfl) (Nat.le_of_ble_eq_true rfl) dL_pushes_16
set_option maxHeartbeats 4000000 in
set_option maxRecDepth 100000 in
theorem l_canPush (Γ : Gm) (l : Launch) (x0 : Nat) (mf : Nat → Int32) (E : Nat → EV) (cn us : Int32) (so sh sm : Int64) (np : Nat) (mon : Nat → Int32) (ng : Nat) (gs : Nat → GS) (nt : Nat) (ts : Nat → TR) (lim : Int32) (rf sp : Int64) (rr : Nat) (o : Nat) (g0 : Nat → Int64) (v0 v1 : Int32) (f : Hm) (hst : l.stackTraces = false) (hC : CW Γ f x0 mf E cn us so sh sm np mon ng gs nt ts lim rf sp rr) (hnp : np ≤ 4) (hng : ng ≤ 8) (hnt : nt ≤ 60) (hr1 : 1 ≤ rr) (hrr : rr ≤ 64) (hgs : GOK np ng gs) (ho : f o = some (eJ Γ 1 g0)) : CtW Γ l yL_canPush cL_canPush 5 (some .int) [(0, 17, 20, 21), (0, 17, 24, 13)] 9 2 12 [.ref x0, .int v0, .int v1, .ref o] f (wP (if inB v0 (nI ng) then (if inB v1 4 then 0 else 2) else 1) (bI (goN (gs (ix v0)).2.1 (ix v1))) Γ o f (fun f' => CW Γ f' x0 mf E cn us so sh sm np mon ng gs nt ts lim rf sp rr) (fun f' => CW Γ f' x0 mf E cn us so sh sm np mon ng gs nt ts lim rf sp rr)) := by
  refine CtW_of (by decide +kernel) (Nat.le_of_ble_eq_true rfl) ?_
  intro p e s m args below meth c hx hb hr hml hown hlocks htab hts hH hO hK ls hl
  obtain ⟨lp, lg, lt, ca, tr, pl, ⟨hx0, -⟩, -⟩ := id hC
  have h34 := hm_c34 hK
  have hl : lv_has ls 5 [(0, .ref x0), (1, .int v0), (2, .int v1), (3, .ref o)] := hl
  have hS : va_S (gA Γ) s.heap s.heap [] := va_S.rf
  refine lv_aload_n hx hb dL_canPush_0 rfl (lv_at hl 3 rfl) ?_
  refine lv_iconst (v := 0) hx hb dL_canPush_1 (by decide) ?_
  refine lv_aload_n hx hb dL_canPush_2 rfl (lv_at hl 0 rfl) ?_
  refine lv_iload_n hx hb dL_canPush_3 rfl (lv_at hl 1 rfl) ?_
  refine lv_iload_n hx hb dL_canPush_4 rfl (lv_at hl 2 rfl) ?_
  refine hm_xVW (rest := [.int 0, .ref o]) (k := 8) q3_202 q3_203 q1_1 q3_205 q3_204 rfl nm_X7_canPush rfl hx hb hml hown hts hK hO hS hH hl.1 hx0 (t_X7_canPush Γ l x0 mf E cn us so sh sm np mon ng gs nt ts lim rf sp rr v0 v1 f hst hC hnp hng hnt hr1 hrr hgs ) ⟨Nat.le_of_ble_eq_true rfl, Nat.le_of_ble_eq_true rfl⟩ ⟨Nat.le_of_ble_eq_true rfl, Nat.le_of_ble_eq_true rfl⟩ rfl (Nat.le_of_ble_eq_true rfl) dL_canPush_5 (fun E ce q9 f1_ H locs hp_ hH hS h4 h5 h6 => ?_) (fun v_ f1_ H locs hp_ hH hS => ?_)
  · obtain ⟨hk, hin, hN, hkM⟩ := hp_
    have hoe : f1_ o = some (eJ Γ 1 g0) := hkM _ _ ho rfl
    rcases hin with ⟨hE, hk2⟩ | ⟨hE, hk2⟩ | hF
    · have hE2 : "java/lang/IndexOutOfBoundsException" = E := hE
      subst hE2
      have hk3 : (1 : Int32) = _ := hk2
      refine hm_catch (own := "TileWardenLaw") (name := "java/lang/IndexOutOfBoundsException") hown hts hK [] { startPc := 0, endPc := 17, handlerPc := 20, catchType := 21 } [{ startPc := 0, endPc := 17, handlerPc := 24, catchType := 13 }] (htab.trans rfl) (fun z hz => by exact absurd hz List.not_mem_nil) rfl (by decide) q3_26 (by decide +kernel) h4 h5 h6 ?_
      refine lv_astore (lv' := [(4, .ref q9), (0, .ref x0), (1, .int v0), (2, .int v1), (3, .ref o)]) hx hb dL_canPush_20 hl (by decide) rfl (fun ls hl => ?_)
      refine lv_iconst (v := 1) hx hb dL_canPush_22 (by decide) ?_
      exact hm_iret hx hb hr hlocks hS hH (⟨Or.inr ⟨hk, congrArg (fun q => some (Value.int q)) hk3, ⟨_, hoe⟩, hN⟩, hm_kO.of hkM⟩) (Nat.le_of_ble_eq_true rfl) (Nat.le_of_ble_eq_true rfl) dL_canPush_23
    · have hE2 : "java/lang/IllegalArgumentException" = E := hE
      subst hE2
      have hk3 : (2 : Int32) = _ := hk2
      refine hm_catch (own := "TileWardenLaw") (name := "java/lang/IllegalArgumentException") hown hts hK [{ startPc := 0, endPc := 17, handlerPc := 20, catchType := 21 }] { startPc := 0, endPc := 17, handlerPc := 24, catchType := 13 } [] (htab.trans rfl) (fun z hz => by rcases List.mem_cons.mp hz with rfl | hz; exact ⟨by decide, "java/lang/IndexOutOfBoundsException", q3_26, by decide +kernel⟩; exact absurd hz List.not_mem_nil) rfl (by decide) q2_89 (by decide +kernel) h4 h5 h6 ?_
      refine lv_astore (lv' := [(4, .ref q9), (0, .ref x0), (1, .int v0), (2, .int v1), (3, .ref o)]) hx hb dL_canPush_24 hl (by decide) rfl (fun ls hl => ?_)
      refine lv_iconst (v := 2) hx hb dL_canPush_26 (by decide) ?_
      exact hm_iret hx hb hr hlocks hS hH (⟨Or.inr ⟨hk, congrArg (fun q => some (Value.int q)) hk3, ⟨_, hoe⟩, hN⟩, hm_kO.of hkM⟩) (Nat.le_of_ble_eq_true rfl) (Nat.le_of_ble_eq_true rfl) dL_canPush_27
    · exact hF.elim
  obtain ⟨hk, rfl, hN, hkM⟩ := hp_
  have hoe : f1_ o = some (eJ Γ 1 g0) := hkM _ _ ho rfl
  obtain ⟨b_, eb_⟩ : ∃ b_, b_ = (goN (gs (ix v0)).2.1 (ix v1)) := ⟨_, rfl⟩
  refine W.eq (g2 := F0 m 8 ls [.int (bI b_), .int 0, .ref o]) (by rw [eb_]; rfl) ?_
  refine lv_if_eq (tgt := 15) hx hb dL_canPush_8 (by decide) (fun c1 => ?_) (fun c1 => ?_)
  · refine lv_lconst (v := 0) hx hb dL_canPush_15 (by decide) ?_
    refine hm_last hx hb hK hO hS hH hoe (by unfold vp_in; decide) dL_canPush_16 (fun H locs hH hS => ?_)
    rw [show (0 : Int32).toNatClampNeg = 0 from rfl] at hH
    obtain ⟨f2, ef2⟩ : ∃ zz_, zz_ = hm_up f1_ o (eJ Γ 1 (vp_updL g0 0 0)) := ⟨_, rfl⟩
    have hH : hm_H Γ f2 H := by rw [ef2]; exact hH
    have h3 : f2 o = some (eJ Γ 1 (vp_updL g0 0 0)) := by rw [ef2]; exact hm_us
    refine lv_goto (tgt := 28) hx hb dL_canPush_17 (by decide) ?_
    refine lv_iconst (v := 0) hx hb dL_canPush_28 (by decide) ?_
    subst ef2
    exact hm_iret hx hb hr hlocks hS hH (⟨Or.inl ⟨hk, rfl, ⟨_, hm_us, by rw [← eb_, bI_0.mp c1]; rfl⟩, CW.kpt hN h34 (hm_kd.up hoe rfl)⟩, (hm_kO.of hkM).up⟩) (Nat.le_of_ble_eq_true rfl) (Nat.le_of_ble_eq_true rfl) dL_canPush_29
  · refine lv_lconst (v := 1) hx hb dL_canPush_11 (by decide) ?_
    refine lv_goto (tgt := 16) hx hb dL_canPush_12 (by decide) ?_
    refine hm_last hx hb hK hO hS hH hoe (by unfold vp_in; decide) dL_canPush_16 (fun H locs hH hS => ?_)
    rw [show (0 : Int32).toNatClampNeg = 0 from rfl] at hH
    obtain ⟨f4, ef4⟩ : ∃ zz_, zz_ = hm_up f1_ o (eJ Γ 1 (vp_updL g0 0 1)) := ⟨_, rfl⟩
    have hH : hm_H Γ f4 H := by rw [ef4]; exact hH
    have h5 : f4 o = some (eJ Γ 1 (vp_updL g0 0 1)) := by rw [ef4]; exact hm_us
    refine lv_goto (tgt := 28) hx hb dL_canPush_17 (by decide) ?_
    refine lv_iconst (v := 0) hx hb dL_canPush_28 (by decide) ?_
    subst ef4
    exact hm_iret hx hb hr hlocks hS hH (⟨Or.inl ⟨hk, rfl, ⟨_, hm_us, by rw [← eb_, bI_n.mp c1]; rfl⟩, CW.kpt hN h34 (hm_kd.up hoe rfl)⟩, (hm_kO.of hkM).up⟩) (Nat.le_of_ble_eq_true rfl) (Nat.le_of_ble_eq_true rfl) dL_canPush_29
set_option maxHeartbeats 4000000 in
set_option maxRecDepth 100000 in
theorem l_isOver (Γ : Gm) (l : Launch) (x0 : Nat) (mf : Nat → Int32) (E : Nat → EV) (cn us : Int32) (so sh sm : Int64) (np : Nat) (mon : Nat → Int32) (ng : Nat) (gs : Nat → GS) (nt : Nat) (ts : Nat → TR) (lim : Int32) (rf sp : Int64) (rr : Nat) (o : Nat) (g0 : Nat → Int64) (v0 : Int32) (f : Hm) (hst : l.stackTraces = false) (hC : CW Γ f x0 mf E cn us so sh sm np mon ng gs nt ts lim rf sp rr) (hnp : np ≤ 4) (hng : ng ≤ 8) (hnt : nt ≤ 60) (hr1 : 1 ≤ rr) (hrr : rr ≤ 64) (hgs : GOK np ng gs) (ho : f o = some (eJ Γ 1 g0)) : CtW Γ l yL_isOver cL_isOver 4 (some .int) [(0, 16, 19, 21)] 9 1 6 [.ref x0, .int v0, .ref o] f (wP (if inB v0 (nI ng) then 0 else 1) (bI (ovN (gs (ix v0)).2.1)) Γ o f (fun f' => CW Γ f' x0 mf E cn us so sh sm np mon ng gs nt ts lim rf sp rr) (fun f' => CW Γ f' x0 mf E cn us so sh sm np mon ng gs nt ts lim rf sp rr)) := by
  refine CtW_of (by decide +kernel) (Nat.le_of_ble_eq_true rfl) ?_
  intro p e s m args below meth c hx hb hr hml hown hlocks htab hts hH hO hK ls hl
  obtain ⟨lp, lg, lt, ca, tr, pl, ⟨hx0, -⟩, -⟩ := id hC
  have h34 := hm_c34 hK
  have hl : lv_has ls 4 [(0, .ref x0), (1, .int v0), (2, .ref o)] := hl
  have hS : va_S (gA Γ) s.heap s.heap [] := va_S.rf
  refine lv_aload_n hx hb dL_isOver_0 rfl (lv_at hl 2 rfl) ?_
  refine lv_iconst (v := 0) hx hb dL_isOver_1 (by decide) ?_
  refine lv_aload_n hx hb dL_isOver_2 rfl (lv_at hl 0 rfl) ?_
  refine lv_iload_n hx hb dL_isOver_3 rfl (lv_at hl 1 rfl) ?_
  refine hm_xVW (rest := [.int 0, .ref o]) (k := 8) q3_209 q3_210 q1_1 q3_212 q3_211 rfl nm_X7_isOver rfl hx hb hml hown hts hK hO hS hH hl.1 hx0 (t_X7_isOver Γ l x0 mf E cn us so sh sm np mon ng gs nt ts lim rf sp rr v0 f hst hC hnp hng hnt hr1 hrr hgs ) ⟨Nat.le_of_ble_eq_true rfl, Nat.le_of_ble_eq_true rfl⟩ ⟨Nat.le_of_ble_eq_true rfl, Nat.le_of_ble_eq_true rfl⟩ rfl (Nat.le_of_ble_eq_true rfl) dL_isOver_4 (fun E ce q9 f1_ H locs hp_ hH hS h4 h5 h6 => ?_) (fun v_ f1_ H locs hp_ hH hS => ?_)
  · obtain ⟨hk, hin, hN, hkM⟩ := hp_
    have hoe : f1_ o = some (eJ Γ 1 g0) := hkM _ _ ho rfl
    rcases hin with ⟨hE, hk2⟩ | hF
    · have hE2 : "java/lang/IndexOutOfBoundsException" = E := hE
      subst hE2
      have hk3 : (1 : Int32) = _ := hk2
      refine hm_catch (own := "TileWardenLaw") (name := "java/lang/IndexOutOfBoundsException") hown hts hK [] { startPc := 0, endPc := 16, handlerPc := 19, catchType := 21 } [] (htab.trans rfl) (fun z hz => by exact absurd hz List.not_mem_nil) rfl (by decide) q3_26 (by decide +kernel) h4 h5 h6 ?_
      refine lv_astore_n (lv' := [(3, .ref q9), (0, .ref x0), (1, .int v0), (2, .ref o)]) hx hb dL_isOver_19 rfl hl (by decide) rfl (fun ls hl => ?_)
      refine lv_iconst (v := 1) hx hb dL_isOver_20 (by decide) ?_
      exact hm_iret hx hb hr hlocks hS hH (⟨Or.inr ⟨hk, congrArg (fun q => some (Value.int q)) hk3, ⟨_, hoe⟩, hN⟩, hm_kO.of hkM⟩) (Nat.le_of_ble_eq_true rfl) (Nat.le_of_ble_eq_true rfl) dL_isOver_21
    · exact hF.elim
  obtain ⟨hk, rfl, hN, hkM⟩ := hp_
  have hoe : f1_ o = some (eJ Γ 1 g0) := hkM _ _ ho rfl
  obtain ⟨b_, eb_⟩ : ∃ b_, b_ = (ovN (gs (ix v0)).2.1) := ⟨_, rfl⟩
  refine W.eq (g2 := F0 m 7 ls [.int (bI b_), .int 0, .ref o]) (by rw [eb_]; rfl) ?_
  refine lv_if_eq (tgt := 14) hx hb dL_isOver_7 (by decide) (fun c1 => ?_) (fun c1 => ?_)
  · refine lv_lconst (v := 0) hx hb dL_isOver_14 (by decide) ?_
    refine hm_last hx hb hK hO hS hH hoe (by unfold vp_in; decide) dL_isOver_15 (fun H locs hH hS => ?_)
    rw [show (0 : Int32).toNatClampNeg = 0 from rfl] at hH
    obtain ⟨f2, ef2⟩ : ∃ zz_, zz_ = hm_up f1_ o (eJ Γ 1 (vp_updL g0 0 0)) := ⟨_, rfl⟩
    have hH : hm_H Γ f2 H := by rw [ef2]; exact hH
    have h3 : f2 o = some (eJ Γ 1 (vp_updL g0 0 0)) := by rw [ef2]; exact hm_us
    refine lv_goto (tgt := 22) hx hb dL_isOver_16 (by decide) ?_
    refine lv_iconst (v := 0) hx hb dL_isOver_22 (by decide) ?_
    subst ef2
    exact hm_iret hx hb hr hlocks hS hH (⟨Or.inl ⟨hk, rfl, ⟨_, hm_us, by rw [← eb_, bI_0.mp c1]; rfl⟩, CW.kpt hN h34 (hm_kd.up hoe rfl)⟩, (hm_kO.of hkM).up⟩) (Nat.le_of_ble_eq_true rfl) (Nat.le_of_ble_eq_true rfl) dL_isOver_23
  · refine lv_lconst (v := 1) hx hb dL_isOver_10 (by decide) ?_
    refine lv_goto (tgt := 15) hx hb dL_isOver_11 (by decide) ?_
    refine hm_last hx hb hK hO hS hH hoe (by unfold vp_in; decide) dL_isOver_15 (fun H locs hH hS => ?_)
    rw [show (0 : Int32).toNatClampNeg = 0 from rfl] at hH
    obtain ⟨f4, ef4⟩ : ∃ zz_, zz_ = hm_up f1_ o (eJ Γ 1 (vp_updL g0 0 1)) := ⟨_, rfl⟩
    have hH : hm_H Γ f4 H := by rw [ef4]; exact hH
    have h5 : f4 o = some (eJ Γ 1 (vp_updL g0 0 1)) := by rw [ef4]; exact hm_us
    refine lv_goto (tgt := 22) hx hb dL_isOver_16 (by decide) ?_
    refine lv_iconst (v := 0) hx hb dL_isOver_22 (by decide) ?_
    subst ef4
    exact hm_iret hx hb hr hlocks hS hH (⟨Or.inl ⟨hk, rfl, ⟨_, hm_us, by rw [← eb_, bI_n.mp c1]; rfl⟩, CW.kpt hN h34 (hm_kd.up hoe rfl)⟩, (hm_kO.of hkM).up⟩) (Nat.le_of_ble_eq_true rfl) (Nat.le_of_ble_eq_true rfl) dL_isOver_23
set_option maxHeartbeats 4000000 in
set_option maxRecDepth 100000 in
theorem l_price (Γ : Gm) (l : Launch) (x0 : Nat) (mf : Nat → Int32) (E : Nat → EV) (cn us : Int32) (so sh sm : Int64) (np : Nat) (mon : Nat → Int32) (ng : Nat) (gs : Nat → GS) (nt : Nat) (ts : Nat → TR) (lim : Int32) (rf sp : Int64) (rr : Nat) (o : Nat) (g0 : Nat → Int64) (v0 v1 : Int32) (f : Hm) (hst : l.stackTraces = false) (hC : CW Γ f x0 mf E cn us so sh sm np mon ng gs nt ts lim rf sp rr) (hnp : np ≤ 4) (hng : ng ≤ 8) (hnt : nt ≤ 60) (hr1 : 1 ≤ rr) (hrr : rr ≤ 64) (hgs : GOK np ng gs) (hok : ∀ j, j < 64 → eok (E j)) (ho : f o = some (eJ Γ 1 g0)) : CtW Γ l yL_price cL_price 5 (some .int) [(0, 10, 13, 21), (0, 10, 17, 13), (0, 10, 21, 26)] 15 3 18 [.ref x0, .int v0, .int v1, .ref o] f (wP (if inB v0 (nI ng) then (if inR v1 1 4 then (if (!(gs (ix v0)).2.2.2.2.2.2.2.2 && !ovN (gs (ix v0)).2.1) then 0 else 3) else 2) else 1) ((mxI (trS 64 (nI rr) (ix v1) (gs (ix v0)).2.1 (gs (ix v0)).2.2.1 (E, cn, us, 0, 0)).2.2.2.2 1)) Γ o f (fun f' => CW Γ f' x0 mf E cn us so sh sm np mon ng gs nt ts lim rf sp rr) (fun f' => CW Γ f' x0 mf E cn us so sh sm np mon ng gs nt ts lim rf sp rr)) := by
  refine CtW_of (by decide +kernel) (Nat.le_of_ble_eq_true rfl) ?_
  intro p e s m args below meth c hx hb hr hml hown hlocks htab hts hH hO hK ls hl
  obtain ⟨lp, lg, lt, ca, tr, pl, ⟨hx0, -⟩, -⟩ := id hC
  have h34 := hm_c34 hK
  have hl : lv_has ls 5 [(0, .ref x0), (1, .int v0), (2, .int v1), (3, .ref o)] := hl
  have hS : va_S (gA Γ) s.heap s.heap [] := va_S.rf
  refine lv_aload_n hx hb dL_price_0 rfl (lv_at hl 3 rfl) ?_
  refine lv_iconst (v := 0) hx hb dL_price_1 (by decide) ?_
  refine lv_aload_n hx hb dL_price_2 rfl (lv_at hl 0 rfl) ?_
  refine lv_iload_n hx hb dL_price_3 rfl (lv_at hl 1 rfl) ?_
  refine lv_iload_n hx hb dL_price_4 rfl (lv_at hl 2 rfl) ?_
  refine hm_xVW (rest := [.int 0, .ref o]) (k := 14) q3_220 q3_221 q1_1 q3_223 q3_222 rfl nm_X7_price rfl hx hb hml hown hts hK hO hS hH hl.1 hx0 (t_X7_price Γ l x0 mf E cn us so sh sm np mon ng gs nt ts lim rf sp rr v0 v1 f hst hC hnp hng hnt hr1 hrr hgs hok) ⟨Nat.le_of_ble_eq_true rfl, Nat.le_of_ble_eq_true rfl⟩ ⟨Nat.le_of_ble_eq_true rfl, Nat.le_of_ble_eq_true rfl⟩ rfl (Nat.le_of_ble_eq_true rfl) dL_price_5 (fun E ce q9 f1_ H locs hp_ hH hS h4 h5 h6 => ?_) (fun v_ f1_ H locs hp_ hH hS => ?_)
  · obtain ⟨hk, hin, hN, hkM⟩ := hp_
    have hoe : f1_ o = some (eJ Γ 1 g0) := hkM _ _ ho rfl
    rcases hin with ⟨hE, hk2⟩ | ⟨hE, hk2⟩ | ⟨hE, hk2⟩ | hF
    · have hE2 : "java/lang/IndexOutOfBoundsException" = E := hE
      subst hE2
      have hk3 : (1 : Int32) = _ := hk2
      refine hm_catch (own := "TileWardenLaw") (name := "java/lang/IndexOutOfBoundsException") hown hts hK [] { startPc := 0, endPc := 10, handlerPc := 13, catchType := 21 } [{ startPc := 0, endPc := 10, handlerPc := 17, catchType := 13 }, { startPc := 0, endPc := 10, handlerPc := 21, catchType := 26 }] (htab.trans rfl) (fun z hz => by exact absurd hz List.not_mem_nil) rfl (by decide) q3_26 (by decide +kernel) h4 h5 h6 ?_
      refine lv_astore (lv' := [(4, .ref q9), (0, .ref x0), (1, .int v0), (2, .int v1), (3, .ref o)]) hx hb dL_price_13 hl (by decide) rfl (fun ls hl => ?_)
      refine lv_iconst (v := 1) hx hb dL_price_15 (by decide) ?_
      exact hm_iret hx hb hr hlocks hS hH (⟨Or.inr ⟨hk, congrArg (fun q => some (Value.int q)) hk3, ⟨_, hoe⟩, hN⟩, hm_kO.of hkM⟩) (Nat.le_of_ble_eq_true rfl) (Nat.le_of_ble_eq_true rfl) dL_price_16
    · have hE2 : "java/lang/IllegalArgumentException" = E := hE
      subst hE2
      have hk3 : (2 : Int32) = _ := hk2
      refine hm_catch (own := "TileWardenLaw") (name := "java/lang/IllegalArgumentException") hown hts hK [{ startPc := 0, endPc := 10, handlerPc := 13, catchType := 21 }] { startPc := 0, endPc := 10, handlerPc := 17, catchType := 13 } [{ startPc := 0, endPc := 10, handlerPc := 21, catchType := 26 }] (htab.trans rfl) (fun z hz => by rcases List.mem_cons.mp hz with rfl | hz; exact ⟨by decide, "java/lang/IndexOutOfBoundsException", q3_26, by decide +kernel⟩; exact absurd hz List.not_mem_nil) rfl (by decide) q2_89 (by decide +kernel) h4 h5 h6 ?_
      refine lv_astore (lv' := [(4, .ref q9), (0, .ref x0), (1, .int v0), (2, .int v1), (3, .ref o)]) hx hb dL_price_17 hl (by decide) rfl (fun ls hl => ?_)
      refine lv_iconst (v := 2) hx hb dL_price_19 (by decide) ?_
      exact hm_iret hx hb hr hlocks hS hH (⟨Or.inr ⟨hk, congrArg (fun q => some (Value.int q)) hk3, ⟨_, hoe⟩, hN⟩, hm_kO.of hkM⟩) (Nat.le_of_ble_eq_true rfl) (Nat.le_of_ble_eq_true rfl) dL_price_20
    · have hE2 : "java/lang/UnsupportedOperationException" = E := hE
      subst hE2
      have hk3 : (3 : Int32) = _ := hk2
      refine hm_catch (own := "TileWardenLaw") (name := "java/lang/UnsupportedOperationException") hown hts hK [{ startPc := 0, endPc := 10, handlerPc := 13, catchType := 21 }, { startPc := 0, endPc := 10, handlerPc := 17, catchType := 13 }] { startPc := 0, endPc := 10, handlerPc := 21, catchType := 26 } [] (htab.trans rfl) (fun z hz => by rcases List.mem_cons.mp hz with rfl | hz; exact ⟨by decide, "java/lang/IndexOutOfBoundsException", q3_26, by decide +kernel⟩; rcases List.mem_cons.mp hz with rfl | hz; exact ⟨by decide, "java/lang/IllegalArgumentException", q2_89, by decide +kernel⟩; exact absurd hz List.not_mem_nil) rfl (by decide) q3_126 (by decide +kernel) h4 h5 h6 ?_
      refine lv_astore (lv' := [(4, .ref q9), (0, .ref x0), (1, .int v0), (2, .int v1), (3, .ref o)]) hx hb dL_price_21 hl (by decide) rfl (fun ls hl => ?_)
      refine lv_iconst (v := 3) hx hb dL_price_23 (by decide) ?_
      exact hm_iret hx hb hr hlocks hS hH (⟨Or.inr ⟨hk, congrArg (fun q => some (Value.int q)) hk3, ⟨_, hoe⟩, hN⟩, hm_kO.of hkM⟩) (Nat.le_of_ble_eq_true rfl) (Nat.le_of_ble_eq_true rfl) dL_price_24
    · exact hF.elim
  obtain ⟨hk, rfl, hN, hkM⟩ := hp_
  have hoe : f1_ o = some (eJ Γ 1 g0) := hkM _ _ ho rfl
  obtain ⟨A_, eA_⟩ : ∃ A_, A_ = (mxI (trS 64 (nI rr) (ix v1) (gs (ix v0)).2.1 (gs (ix v0)).2.2.1 (E, cn, us, 0, 0)).2.2.2.2 1) := ⟨_, rfl⟩
  refine W.eq (g2 := F0 m 8 ls [.int A_, .int 0, .ref o]) (by rw [eA_]; rfl) ?_
  refine lv_i2l hx hb dL_price_8 rfl ?_
  refine lv_topl (fun v1 ev1 => ?_)
  refine hm_last hx hb hK hO hS hH hoe (by unfold vp_in; decide) dL_price_9 (fun H locs hH hS => ?_)
  rw [show (0 : Int32).toNatClampNeg = 0 from rfl] at hH
  obtain ⟨f2, ef2⟩ : ∃ zz_, zz_ = hm_up f1_ o (eJ Γ 1 (vp_updL g0 0 v1)) := ⟨_, rfl⟩
  have hH : hm_H Γ f2 H := by rw [ef2]; exact hH
  have h3 : f2 o = some (eJ Γ 1 (vp_updL g0 0 v1)) := by rw [ef2]; exact hm_us
  refine lv_goto (tgt := 25) hx hb dL_price_10 (by decide) ?_
  refine lv_iconst (v := 0) hx hb dL_price_25 (by decide) ?_
  subst ef2
  subst ev1
  exact hm_iret hx hb hr hlocks hS hH (⟨Or.inl ⟨hk, rfl, ⟨_, hm_us, by rw [eA_]; rfl⟩, CW.kpt hN h34 (hm_kd.up hoe rfl)⟩, (hm_kO.of hkM).up⟩) (Nat.le_of_ble_eq_true rfl) (Nat.le_of_ble_eq_true rfl) dL_price_26
set_option maxHeartbeats 4000000 in
set_option maxRecDepth 100000 in
theorem l_hint (Γ : Gm) (l : Launch) (x0 : Nat) (mf : Nat → Int32) (E : Nat → EV) (cn us : Int32) (so sh sm : Int64) (np : Nat) (mon : Nat → Int32) (ng : Nat) (gs : Nat → GS) (nt : Nat) (ts : Nat → TR) (lim : Int32) (rf sp : Int64) (rr : Nat) (o : Nat) (g0 : Nat → Int64) (v0 v1 : Int32) (f : Hm) (hst : l.stackTraces = false) (hC : CW Γ f x0 mf E cn us so sh sm np mon ng gs nt ts lim rf sp rr) (hnp : np ≤ 4) (hng : ng ≤ 8) (hnt : nt ≤ 60) (hr1 : 1 ≤ rr) (hrr : rr ≤ 64) (hgs : GOK np ng gs) (hok : ∀ j, j < 64 → eok (E j)) (ho : f o = some (eJ Γ 1 g0)) : CtW Γ l yL_hint cL_hint 5 (some .int) [(0, 10, 13, 21), (0, 10, 17, 13), (0, 10, 21, 26), (0, 10, 25, 52), (0, 10, 29, 15)] 15 6 120 [.ref x0, .int v0, .int v1, .ref o] f (wP (if inB v0 (nI ng) then (if inR v1 1 4 then (if (!(gs (ix v0)).2.2.2.2.2.2.2.2 && !ovN (gs (ix v0)).2.1) then (if decide ((mxI (trS 64 (nI rr) (ix v1) (gs (ix v0)).2.1 (gs (ix v0)).2.2.1 (E, cn, us, 0, 0)).2.2.2.2 1) ≤ mon (gs (ix v0)).1) then (if decide (nt < 60) then 0 else 5) else 4) else 3) else 2) else 1) ((wp (ix v1) (gs (ix v0)).2.1 (gs (ix v0)).2.2.1).2) Γ o f (fun f' => CW Γ f' x0 mf ((trS 64 (nI rr) (ix v1) (gs (ix v0)).2.1 (gs (ix v0)).2.2.1 (E, cn, us, 0, 0)).1) ((trS 64 (nI rr) (ix v1) (gs (ix v0)).2.1 (gs (ix v0)).2.2.1 (E, cn, us, 0, 0)).2.1) ((trS 64 (nI rr) (ix v1) (gs (ix v0)).2.1 (gs (ix v0)).2.2.1 (E, cn, us, 0, 0)).2.2.1) ((so + 1)) ((sh + (trS 64 (nI rr) (ix v1) (gs (ix v0)).2.1 (gs (ix v0)).2.2.1 (E, cn, us, 0, 0)).2.2.2.1.toInt64)) ((sm + (trS 64 (nI rr) (ix v1) (gs (ix v0)).2.1 (gs (ix v0)).2.2.1 (E, cn, us, 0, 0)).2.2.2.2.toInt64)) np ((upd mon (gs (ix v0)).1 (mon (gs (ix v0)).1 - (mxI (trS 64 (nI rr) (ix v1) (gs (ix v0)).2.1 (gs (ix v0)).2.2.1 (E, cn, us, 0, 0)).2.2.2.2 1)))) ng ((setG gs (ix v0) ((gs (ix v0)).1, (gs (ix v0)).2.1, (gs (ix v0)).2.2.1, (gs (ix v0)).2.2.2.1, (gs (ix v0)).2.2.2.2.1, (gs (ix v0)).2.2.2.2.2.1, (gs (ix v0)).2.2.2.2.2.2.1, (gs (ix v0)).2.2.2.2.2.2.2.1 + (mxI (trS 64 (nI rr) (ix v1) (gs (ix v0)).2.1 (gs (ix v0)).2.2.1 (E, cn, us, 0, 0)).2.2.2.2 1), (gs (ix v0)).2.2.2.2.2.2.2.2))) ((nt + 1)) ((setT ts nt ((gs (ix v0)).1, (gs (ix v0)).2.1, (gs (ix v0)).2.2.1, (wp (ix v1) (gs (ix v0)).2.1 (gs (ix v0)).2.2.1).2))) lim rf ((sp + (mxI (trS 64 (nI rr) (ix v1) (gs (ix v0)).2.1 (gs (ix v0)).2.2.1 (E, cn, us, 0, 0)).2.2.2.2 1).toInt64)) rr) (fun f' => CW Γ f' x0 mf E cn us so sh sm np mon ng gs nt ts lim rf sp rr)) := by
  refine CtW_of (by decide +kernel) (Nat.le_of_ble_eq_true rfl) ?_
  intro p e s m args below meth c hx hb hr hml hown hlocks htab hts hH hO hK ls hl
  obtain ⟨lp, lg, lt, ca, tr, pl, ⟨hx0, -⟩, -⟩ := id hC
  have h34 := hm_c34 hK
  have hl : lv_has ls 5 [(0, .ref x0), (1, .int v0), (2, .int v1), (3, .ref o)] := hl
  have hS : va_S (gA Γ) s.heap s.heap [] := va_S.rf
  refine lv_aload_n hx hb dL_hint_0 rfl (lv_at hl 3 rfl) ?_
  refine lv_iconst (v := 0) hx hb dL_hint_1 (by decide) ?_
  refine lv_aload_n hx hb dL_hint_2 rfl (lv_at hl 0 rfl) ?_
  refine lv_iload_n hx hb dL_hint_3 rfl (lv_at hl 1 rfl) ?_
  refine lv_iload_n hx hb dL_hint_4 rfl (lv_at hl 2 rfl) ?_
  refine hm_xVW (rest := [.int 0, .ref o]) (k := 14) q4_17 q4_18 q1_1 q4_20 q4_19 rfl nm_X7_hint rfl hx hb hml hown hts hK hO hS hH hl.1 hx0 (t_X7_hint Γ l x0 mf E cn us so sh sm np mon ng gs nt ts lim rf sp rr v0 v1 f hst hC hnp hng hnt hr1 hrr hgs hok) ⟨Nat.le_of_ble_eq_true rfl, Nat.le_of_ble_eq_true rfl⟩ ⟨Nat.le_of_ble_eq_true rfl, Nat.le_of_ble_eq_true rfl⟩ rfl (Nat.le_of_ble_eq_true rfl) dL_hint_5 (fun E ce q9 f1_ H locs hp_ hH hS h4 h5 h6 => ?_) (fun v_ f1_ H locs hp_ hH hS => ?_)
  · obtain ⟨hk, hin, hN, hkM⟩ := hp_
    have hoe : f1_ o = some (eJ Γ 1 g0) := hkM _ _ ho rfl
    rcases hin with ⟨hE, hk2⟩ | ⟨hE, hk2⟩ | ⟨hE, hk2⟩ | ⟨hE, hk2⟩ | ⟨hE, hk2⟩ | hF
    · have hE2 : "java/lang/IndexOutOfBoundsException" = E := hE
      subst hE2
      have hk3 : (1 : Int32) = _ := hk2
      refine hm_catch (own := "TileWardenLaw") (name := "java/lang/IndexOutOfBoundsException") hown hts hK [] { startPc := 0, endPc := 10, handlerPc := 13, catchType := 21 } [{ startPc := 0, endPc := 10, handlerPc := 17, catchType := 13 }, { startPc := 0, endPc := 10, handlerPc := 21, catchType := 26 }, { startPc := 0, endPc := 10, handlerPc := 25, catchType := 52 }, { startPc := 0, endPc := 10, handlerPc := 29, catchType := 15 }] (htab.trans rfl) (fun z hz => by exact absurd hz List.not_mem_nil) rfl (by decide) q3_26 (by decide +kernel) h4 h5 h6 ?_
      refine lv_astore (lv' := [(4, .ref q9), (0, .ref x0), (1, .int v0), (2, .int v1), (3, .ref o)]) hx hb dL_hint_13 hl (by decide) rfl (fun ls hl => ?_)
      refine lv_iconst (v := 1) hx hb dL_hint_15 (by decide) ?_
      exact hm_iret hx hb hr hlocks hS hH (⟨Or.inr ⟨hk, congrArg (fun q => some (Value.int q)) hk3, ⟨_, hoe⟩, hN⟩, hm_kO.of hkM⟩) (Nat.le_of_ble_eq_true rfl) (Nat.le_of_ble_eq_true rfl) dL_hint_16
    · have hE2 : "java/lang/IllegalArgumentException" = E := hE
      subst hE2
      have hk3 : (2 : Int32) = _ := hk2
      refine hm_catch (own := "TileWardenLaw") (name := "java/lang/IllegalArgumentException") hown hts hK [{ startPc := 0, endPc := 10, handlerPc := 13, catchType := 21 }] { startPc := 0, endPc := 10, handlerPc := 17, catchType := 13 } [{ startPc := 0, endPc := 10, handlerPc := 21, catchType := 26 }, { startPc := 0, endPc := 10, handlerPc := 25, catchType := 52 }, { startPc := 0, endPc := 10, handlerPc := 29, catchType := 15 }] (htab.trans rfl) (fun z hz => by rcases List.mem_cons.mp hz with rfl | hz; exact ⟨by decide, "java/lang/IndexOutOfBoundsException", q3_26, by decide +kernel⟩; exact absurd hz List.not_mem_nil) rfl (by decide) q2_89 (by decide +kernel) h4 h5 h6 ?_
      refine lv_astore (lv' := [(4, .ref q9), (0, .ref x0), (1, .int v0), (2, .int v1), (3, .ref o)]) hx hb dL_hint_17 hl (by decide) rfl (fun ls hl => ?_)
      refine lv_iconst (v := 2) hx hb dL_hint_19 (by decide) ?_
      exact hm_iret hx hb hr hlocks hS hH (⟨Or.inr ⟨hk, congrArg (fun q => some (Value.int q)) hk3, ⟨_, hoe⟩, hN⟩, hm_kO.of hkM⟩) (Nat.le_of_ble_eq_true rfl) (Nat.le_of_ble_eq_true rfl) dL_hint_20
    · have hE2 : "java/lang/UnsupportedOperationException" = E := hE
      subst hE2
      have hk3 : (3 : Int32) = _ := hk2
      refine hm_catch (own := "TileWardenLaw") (name := "java/lang/UnsupportedOperationException") hown hts hK [{ startPc := 0, endPc := 10, handlerPc := 13, catchType := 21 }, { startPc := 0, endPc := 10, handlerPc := 17, catchType := 13 }] { startPc := 0, endPc := 10, handlerPc := 21, catchType := 26 } [{ startPc := 0, endPc := 10, handlerPc := 25, catchType := 52 }, { startPc := 0, endPc := 10, handlerPc := 29, catchType := 15 }] (htab.trans rfl) (fun z hz => by rcases List.mem_cons.mp hz with rfl | hz; exact ⟨by decide, "java/lang/IndexOutOfBoundsException", q3_26, by decide +kernel⟩; rcases List.mem_cons.mp hz with rfl | hz; exact ⟨by decide, "java/lang/IllegalArgumentException", q2_89, by decide +kernel⟩; exact absurd hz List.not_mem_nil) rfl (by decide) q3_126 (by decide +kernel) h4 h5 h6 ?_
      refine lv_astore (lv' := [(4, .ref q9), (0, .ref x0), (1, .int v0), (2, .int v1), (3, .ref o)]) hx hb dL_hint_21 hl (by decide) rfl (fun ls hl => ?_)
      refine lv_iconst (v := 3) hx hb dL_hint_23 (by decide) ?_
      exact hm_iret hx hb hr hlocks hS hH (⟨Or.inr ⟨hk, congrArg (fun q => some (Value.int q)) hk3, ⟨_, hoe⟩, hN⟩, hm_kO.of hkM⟩) (Nat.le_of_ble_eq_true rfl) (Nat.le_of_ble_eq_true rfl) dL_hint_24
    · have hE2 : "java/util/NoSuchElementException" = E := hE
      subst hE2
      have hk3 : (4 : Int32) = _ := hk2
      refine hm_catch (own := "TileWardenLaw") (name := "java/util/NoSuchElementException") hown hts hK [{ startPc := 0, endPc := 10, handlerPc := 13, catchType := 21 }, { startPc := 0, endPc := 10, handlerPc := 17, catchType := 13 }, { startPc := 0, endPc := 10, handlerPc := 21, catchType := 26 }] { startPc := 0, endPc := 10, handlerPc := 25, catchType := 52 } [{ startPc := 0, endPc := 10, handlerPc := 29, catchType := 15 }] (htab.trans rfl) (fun z hz => by rcases List.mem_cons.mp hz with rfl | hz; exact ⟨by decide, "java/lang/IndexOutOfBoundsException", q3_26, by decide +kernel⟩; rcases List.mem_cons.mp hz with rfl | hz; exact ⟨by decide, "java/lang/IllegalArgumentException", q2_89, by decide +kernel⟩; rcases List.mem_cons.mp hz with rfl | hz; exact ⟨by decide, "java/lang/UnsupportedOperationException", q3_126, by decide +kernel⟩; exact absurd hz List.not_mem_nil) rfl (by decide) q4_16 (by decide +kernel) h4 h5 h6 ?_
      refine lv_astore (lv' := [(4, .ref q9), (0, .ref x0), (1, .int v0), (2, .int v1), (3, .ref o)]) hx hb dL_hint_25 hl (by decide) rfl (fun ls hl => ?_)
      refine lv_iconst (v := 4) hx hb dL_hint_27 (by decide) ?_
      exact hm_iret hx hb hr hlocks hS hH (⟨Or.inr ⟨hk, congrArg (fun q => some (Value.int q)) hk3, ⟨_, hoe⟩, hN⟩, hm_kO.of hkM⟩) (Nat.le_of_ble_eq_true rfl) (Nat.le_of_ble_eq_true rfl) dL_hint_28
    · have hE2 : "java/lang/IllegalStateException" = E := hE
      subst hE2
      have hk3 : (5 : Int32) = _ := hk2
      refine hm_catch (own := "TileWardenLaw") (name := "java/lang/IllegalStateException") hown hts hK [{ startPc := 0, endPc := 10, handlerPc := 13, catchType := 21 }, { startPc := 0, endPc := 10, handlerPc := 17, catchType := 13 }, { startPc := 0, endPc := 10, handlerPc := 21, catchType := 26 }, { startPc := 0, endPc := 10, handlerPc := 25, catchType := 52 }] { startPc := 0, endPc := 10, handlerPc := 29, catchType := 15 } [] (htab.trans rfl) (fun z hz => by rcases List.mem_cons.mp hz with rfl | hz; exact ⟨by decide, "java/lang/IndexOutOfBoundsException", q3_26, by decide +kernel⟩; rcases List.mem_cons.mp hz with rfl | hz; exact ⟨by decide, "java/lang/IllegalArgumentException", q2_89, by decide +kernel⟩; rcases List.mem_cons.mp hz with rfl | hz; exact ⟨by decide, "java/lang/UnsupportedOperationException", q3_126, by decide +kernel⟩; rcases List.mem_cons.mp hz with rfl | hz; exact ⟨by decide, "java/util/NoSuchElementException", q4_16, by decide +kernel⟩; exact absurd hz List.not_mem_nil) rfl (by decide) q2_90 (by decide +kernel) h4 h5 h6 ?_
      refine lv_astore (lv' := [(4, .ref q9), (0, .ref x0), (1, .int v0), (2, .int v1), (3, .ref o)]) hx hb dL_hint_29 hl (by decide) rfl (fun ls hl => ?_)
      refine lv_iconst (v := 5) hx hb dL_hint_31 (by decide) ?_
      exact hm_iret hx hb hr hlocks hS hH (⟨Or.inr ⟨hk, congrArg (fun q => some (Value.int q)) hk3, ⟨_, hoe⟩, hN⟩, hm_kO.of hkM⟩) (Nat.le_of_ble_eq_true rfl) (Nat.le_of_ble_eq_true rfl) dL_hint_32
    · exact hF.elim
  obtain ⟨hk, rfl, hN, hkM⟩ := hp_
  have hoe : f1_ o = some (eJ Γ 1 g0) := hkM _ _ ho rfl
  obtain ⟨A_, eA_⟩ : ∃ A_, A_ = (wp (ix v1) (gs (ix v0)).2.1 (gs (ix v0)).2.2.1).2 := ⟨_, rfl⟩
  refine W.eq (g2 := F0 m 8 ls [.int A_, .int 0, .ref o]) (by rw [eA_]; rfl) ?_
  refine lv_i2l hx hb dL_hint_8 rfl ?_
  refine lv_topl (fun v1 ev1 => ?_)
  refine hm_last hx hb hK hO hS hH hoe (by unfold vp_in; decide) dL_hint_9 (fun H locs hH hS => ?_)
  rw [show (0 : Int32).toNatClampNeg = 0 from rfl] at hH
  obtain ⟨f2, ef2⟩ : ∃ zz_, zz_ = hm_up f1_ o (eJ Γ 1 (vp_updL g0 0 v1)) := ⟨_, rfl⟩
  have hH : hm_H Γ f2 H := by rw [ef2]; exact hH
  have h3 : f2 o = some (eJ Γ 1 (vp_updL g0 0 v1)) := by rw [ef2]; exact hm_us
  refine lv_goto (tgt := 33) hx hb dL_hint_10 (by decide) ?_
  refine lv_iconst (v := 0) hx hb dL_hint_33 (by decide) ?_
  subst ef2
  subst ev1
  exact hm_iret hx hb hr hlocks hS hH (⟨Or.inl ⟨hk, rfl, ⟨_, hm_us, by rw [eA_]; rfl⟩, CW.kpt hN h34 (hm_kd.up hoe rfl)⟩, (hm_kO.of hkM).up⟩) (Nat.le_of_ble_eq_true rfl) (Nat.le_of_ble_eq_true rfl) dL_hint_34
set_option maxHeartbeats 4000000 in
set_option maxRecDepth 100000 in
theorem l_worth (Γ : Gm) (l : Launch) (x0 : Nat) (mf : Nat → Int32) (E : Nat → EV) (cn us : Int32) (so sh sm : Int64) (np : Nat) (mon : Nat → Int32) (ng : Nat) (gs : Nat → GS) (nt : Nat) (ts : Nat → TR) (lim : Int32) (rf sp : Int64) (rr : Nat) (o : Nat) (g0 : Nat → Int64) (v0 v1 : Int32) (f : Hm) (hst : l.stackTraces = false) (hC : CW Γ f x0 mf E cn us so sh sm np mon ng gs nt ts lim rf sp rr) (hnp : np ≤ 4) (hng : ng ≤ 8) (hnt : nt ≤ 60) (hr1 : 1 ≤ rr) (hrr : rr ≤ 64) (hgs : GOK np ng gs) (ho : f o = some (eJ Γ 1 g0)) : CtW Γ l yL_worth cL_worth 5 (some .int) [(0, 10, 13, 21), (0, 10, 17, 13)] 14 2 12 [.ref x0, .int v0, .int v1, .ref o] f (wP (if inB v0 (nI ng) then (if inR v1 0 4 then 0 else 2) else 1) (nI (wp (ix v1) (gs (ix v0)).2.1 (gs (ix v0)).2.2.1).1) Γ o f (fun f' => CW Γ f' x0 mf E cn us so sh sm np mon ng gs nt ts lim rf sp rr) (fun f' => CW Γ f' x0 mf E cn us so sh sm np mon ng gs nt ts lim rf sp rr)) := by
  refine CtW_of (by decide +kernel) (Nat.le_of_ble_eq_true rfl) ?_
  intro p e s m args below meth c hx hb hr hml hown hlocks htab hts hH hO hK ls hl
  obtain ⟨lp, lg, lt, ca, tr, pl, ⟨hx0, -⟩, -⟩ := id hC
  have h34 := hm_c34 hK
  have hl : lv_has ls 5 [(0, .ref x0), (1, .int v0), (2, .int v1), (3, .ref o)] := hl
  have hS : va_S (gA Γ) s.heap s.heap [] := va_S.rf
  refine lv_aload_n hx hb dL_worth_0 rfl (lv_at hl 3 rfl) ?_
  refine lv_iconst (v := 0) hx hb dL_worth_1 (by decide) ?_
  refine lv_aload_n hx hb dL_worth_2 rfl (lv_at hl 0 rfl) ?_
  refine lv_iload_n hx hb dL_worth_3 rfl (lv_at hl 1 rfl) ?_
  refine lv_iload_n hx hb dL_worth_4 rfl (lv_at hl 2 rfl) ?_
  refine hm_xVW (rest := [.int 0, .ref o]) (k := 13) q4_67 q4_68 q1_1 q4_70 q4_69 rfl nm_X7_worth rfl hx hb hml hown hts hK hO hS hH hl.1 hx0 (t_X7_worth Γ l x0 mf E cn us so sh sm np mon ng gs nt ts lim rf sp rr v0 v1 f hst hC hnp hng hnt hr1 hrr hgs ) ⟨Nat.le_of_ble_eq_true rfl, Nat.le_of_ble_eq_true rfl⟩ ⟨Nat.le_of_ble_eq_true rfl, Nat.le_of_ble_eq_true rfl⟩ rfl (Nat.le_of_ble_eq_true rfl) dL_worth_5 (fun E ce q9 f1_ H locs hp_ hH hS h4 h5 h6 => ?_) (fun v_ f1_ H locs hp_ hH hS => ?_)
  · obtain ⟨hk, hin, hN, hkM⟩ := hp_
    have hoe : f1_ o = some (eJ Γ 1 g0) := hkM _ _ ho rfl
    rcases hin with ⟨hE, hk2⟩ | ⟨hE, hk2⟩ | hF
    · have hE2 : "java/lang/IndexOutOfBoundsException" = E := hE
      subst hE2
      have hk3 : (1 : Int32) = _ := hk2
      refine hm_catch (own := "TileWardenLaw") (name := "java/lang/IndexOutOfBoundsException") hown hts hK [] { startPc := 0, endPc := 10, handlerPc := 13, catchType := 21 } [{ startPc := 0, endPc := 10, handlerPc := 17, catchType := 13 }] (htab.trans rfl) (fun z hz => by exact absurd hz List.not_mem_nil) rfl (by decide) q3_26 (by decide +kernel) h4 h5 h6 ?_
      refine lv_astore (lv' := [(4, .ref q9), (0, .ref x0), (1, .int v0), (2, .int v1), (3, .ref o)]) hx hb dL_worth_13 hl (by decide) rfl (fun ls hl => ?_)
      refine lv_iconst (v := 1) hx hb dL_worth_15 (by decide) ?_
      exact hm_iret hx hb hr hlocks hS hH (⟨Or.inr ⟨hk, congrArg (fun q => some (Value.int q)) hk3, ⟨_, hoe⟩, hN⟩, hm_kO.of hkM⟩) (Nat.le_of_ble_eq_true rfl) (Nat.le_of_ble_eq_true rfl) dL_worth_16
    · have hE2 : "java/lang/IllegalArgumentException" = E := hE
      subst hE2
      have hk3 : (2 : Int32) = _ := hk2
      refine hm_catch (own := "TileWardenLaw") (name := "java/lang/IllegalArgumentException") hown hts hK [{ startPc := 0, endPc := 10, handlerPc := 13, catchType := 21 }] { startPc := 0, endPc := 10, handlerPc := 17, catchType := 13 } [] (htab.trans rfl) (fun z hz => by rcases List.mem_cons.mp hz with rfl | hz; exact ⟨by decide, "java/lang/IndexOutOfBoundsException", q3_26, by decide +kernel⟩; exact absurd hz List.not_mem_nil) rfl (by decide) q2_89 (by decide +kernel) h4 h5 h6 ?_
      refine lv_astore (lv' := [(4, .ref q9), (0, .ref x0), (1, .int v0), (2, .int v1), (3, .ref o)]) hx hb dL_worth_17 hl (by decide) rfl (fun ls hl => ?_)
      refine lv_iconst (v := 2) hx hb dL_worth_19 (by decide) ?_
      exact hm_iret hx hb hr hlocks hS hH (⟨Or.inr ⟨hk, congrArg (fun q => some (Value.int q)) hk3, ⟨_, hoe⟩, hN⟩, hm_kO.of hkM⟩) (Nat.le_of_ble_eq_true rfl) (Nat.le_of_ble_eq_true rfl) dL_worth_20
    · exact hF.elim
  obtain ⟨hk, rfl, hN, hkM⟩ := hp_
  have hoe : f1_ o = some (eJ Γ 1 g0) := hkM _ _ ho rfl
  obtain ⟨A_, eA_⟩ : ∃ A_, A_ = nI (wp (ix v1) (gs (ix v0)).2.1 (gs (ix v0)).2.2.1).1 := ⟨_, rfl⟩
  refine W.eq (g2 := F0 m 8 ls [.int A_, .int 0, .ref o]) (by rw [eA_]; rfl) ?_
  refine lv_i2l hx hb dL_worth_8 rfl ?_
  refine lv_topl (fun v1 ev1 => ?_)
  refine hm_last hx hb hK hO hS hH hoe (by unfold vp_in; decide) dL_worth_9 (fun H locs hH hS => ?_)
  rw [show (0 : Int32).toNatClampNeg = 0 from rfl] at hH
  obtain ⟨f2, ef2⟩ : ∃ zz_, zz_ = hm_up f1_ o (eJ Γ 1 (vp_updL g0 0 v1)) := ⟨_, rfl⟩
  have hH : hm_H Γ f2 H := by rw [ef2]; exact hH
  have h3 : f2 o = some (eJ Γ 1 (vp_updL g0 0 v1)) := by rw [ef2]; exact hm_us
  refine lv_goto (tgt := 21) hx hb dL_worth_10 (by decide) ?_
  refine lv_iconst (v := 0) hx hb dL_worth_21 (by decide) ?_
  subst ef2
  subst ev1
  exact hm_iret hx hb hr hlocks hS hH (⟨Or.inl ⟨hk, rfl, ⟨_, hm_us, by rw [eA_]; rfl⟩, CW.kpt hN h34 (hm_kd.up hoe rfl)⟩, (hm_kO.of hkM).up⟩) (Nat.le_of_ble_eq_true rfl) (Nat.le_of_ble_eq_true rfl) dL_worth_22
set_option maxHeartbeats 4000000 in
set_option maxRecDepth 100000 in
theorem l_money (Γ : Gm) (l : Launch) (x0 : Nat) (mf : Nat → Int32) (E : Nat → EV) (cn us : Int32) (so sh sm : Int64) (np : Nat) (mon : Nat → Int32) (ng : Nat) (gs : Nat → GS) (nt : Nat) (ts : Nat → TR) (lim : Int32) (rf sp : Int64) (rr : Nat) (o : Nat) (g0 : Nat → Int64) (v0 : Int32) (f : Hm) (hst : l.stackTraces = false) (hC : CW Γ f x0 mf E cn us so sh sm np mon ng gs nt ts lim rf sp rr) (hnp : np ≤ 4) (hng : ng ≤ 8) (hnt : nt ≤ 60) (hr1 : 1 ≤ rr) (hrr : rr ≤ 64) (hgs : GOK np ng gs) (ho : f o = some (eJ Γ 1 g0)) : CtW Γ l yL_money cL_money 4 (some .int) [(0, 9, 12, 21)] 7 1 6 [.ref x0, .int v0, .ref o] f (wP (if inB v0 (nI np) then 0 else 1) (mon (ix v0)) Γ o f (fun f' => CW Γ f' x0 mf E cn us so sh sm np mon ng gs nt ts lim rf sp rr) (fun f' => CW Γ f' x0 mf E cn us so sh sm np mon ng gs nt ts lim rf sp rr)) := by
  refine CtW_of (by decide +kernel) (Nat.le_of_ble_eq_true rfl) ?_
  intro p e s m args below meth c hx hb hr hml hown hlocks htab hts hH hO hK ls hl
  obtain ⟨lp, lg, lt, ca, tr, pl, ⟨hx0, -⟩, -⟩ := id hC
  have h34 := hm_c34 hK
  have hl : lv_has ls 4 [(0, .ref x0), (1, .int v0), (2, .ref o)] := hl
  have hS : va_S (gA Γ) s.heap s.heap [] := va_S.rf
  refine lv_aload_n hx hb dL_money_0 rfl (lv_at hl 2 rfl) ?_
  refine lv_iconst (v := 0) hx hb dL_money_1 (by decide) ?_
  refine lv_aload_n hx hb dL_money_2 rfl (lv_at hl 0 rfl) ?_
  refine lv_iload_n hx hb dL_money_3 rfl (lv_at hl 1 rfl) ?_
  refine hm_xVW (rest := [.int 0, .ref o]) (k := 6) q4_74 q4_75 q1_1 q4_77 q4_76 rfl nm_X7_money rfl hx hb hml hown hts hK hO hS hH hl.1 hx0 (t_X7_money Γ l x0 mf E cn us so sh sm np mon ng gs nt ts lim rf sp rr v0 f hst hC hnp hng hnt hr1 hrr hgs ) ⟨Nat.le_of_ble_eq_true rfl, Nat.le_of_ble_eq_true rfl⟩ ⟨Nat.le_of_ble_eq_true rfl, Nat.le_of_ble_eq_true rfl⟩ rfl (Nat.le_of_ble_eq_true rfl) dL_money_4 (fun E ce q9 f1_ H locs hp_ hH hS h4 h5 h6 => ?_) (fun v_ f1_ H locs hp_ hH hS => ?_)
  · obtain ⟨hk, hin, hN, hkM⟩ := hp_
    have hoe : f1_ o = some (eJ Γ 1 g0) := hkM _ _ ho rfl
    rcases hin with ⟨hE, hk2⟩ | hF
    · have hE2 : "java/lang/IndexOutOfBoundsException" = E := hE
      subst hE2
      have hk3 : (1 : Int32) = _ := hk2
      refine hm_catch (own := "TileWardenLaw") (name := "java/lang/IndexOutOfBoundsException") hown hts hK [] { startPc := 0, endPc := 9, handlerPc := 12, catchType := 21 } [] (htab.trans rfl) (fun z hz => by exact absurd hz List.not_mem_nil) rfl (by decide) q3_26 (by decide +kernel) h4 h5 h6 ?_
      refine lv_astore_n (lv' := [(3, .ref q9), (0, .ref x0), (1, .int v0), (2, .ref o)]) hx hb dL_money_12 rfl hl (by decide) rfl (fun ls hl => ?_)
      refine lv_iconst (v := 1) hx hb dL_money_13 (by decide) ?_
      exact hm_iret hx hb hr hlocks hS hH (⟨Or.inr ⟨hk, congrArg (fun q => some (Value.int q)) hk3, ⟨_, hoe⟩, hN⟩, hm_kO.of hkM⟩) (Nat.le_of_ble_eq_true rfl) (Nat.le_of_ble_eq_true rfl) dL_money_14
    · exact hF.elim
  obtain ⟨hk, rfl, hN, hkM⟩ := hp_
  have hoe : f1_ o = some (eJ Γ 1 g0) := hkM _ _ ho rfl
  obtain ⟨A_, eA_⟩ : ∃ A_, A_ = mon (ix v0) := ⟨_, rfl⟩
  refine W.eq (g2 := F0 m 7 ls [.int A_, .int 0, .ref o]) (by rw [eA_]; rfl) ?_
  refine lv_i2l hx hb dL_money_7 rfl ?_
  refine lv_topl (fun v1 ev1 => ?_)
  refine hm_last hx hb hK hO hS hH hoe (by unfold vp_in; decide) dL_money_8 (fun H locs hH hS => ?_)
  rw [show (0 : Int32).toNatClampNeg = 0 from rfl] at hH
  obtain ⟨f2, ef2⟩ : ∃ zz_, zz_ = hm_up f1_ o (eJ Γ 1 (vp_updL g0 0 v1)) := ⟨_, rfl⟩
  have hH : hm_H Γ f2 H := by rw [ef2]; exact hH
  have h3 : f2 o = some (eJ Γ 1 (vp_updL g0 0 v1)) := by rw [ef2]; exact hm_us
  refine lv_goto (tgt := 15) hx hb dL_money_9 (by decide) ?_
  refine lv_iconst (v := 0) hx hb dL_money_15 (by decide) ?_
  subst ef2
  subst ev1
  exact hm_iret hx hb hr hlocks hS hH (⟨Or.inl ⟨hk, rfl, ⟨_, hm_us, by rw [eA_]; rfl⟩, CW.kpt hN h34 (hm_kd.up hoe rfl)⟩, (hm_kO.of hkM).up⟩) (Nat.le_of_ble_eq_true rfl) (Nat.le_of_ble_eq_true rfl) dL_money_16
set_option maxHeartbeats 4000000 in
set_option maxRecDepth 100000 in
theorem l_setRoom (Γ : Gm) (l : Launch) (x0 : Nat) (mf : Nat → Int32) (E : Nat → EV) (cn us : Int32) (so sh sm : Int64) (np : Nat) (mon : Nat → Int32) (ng : Nat) (gs : Nat → GS) (nt : Nat) (ts : Nat → TR) (lim : Int32) (rf sp : Int64) (rr : Nat) (o : Nat) (g0 : Nat → Int64) (v0 : Int32) (f : Hm) (hst : l.stackTraces = false) (hC : CW Γ f x0 mf E cn us so sh sm np mon ng gs nt ts lim rf sp rr) (hnp : np ≤ 4) (hng : ng ≤ 8) (hnt : nt ≤ 60) (hr1 : 1 ≤ rr) (hrr : rr ≤ 64) (hgs : GOK np ng gs) (kp : Nat) (hkp : kp ≤ 64) (hcn : cn = nI kp) (ho : f o = some (eJ Γ 1 g0)) : CtW Γ l yL_setRoom cL_setRoom 4 (some .int) [(0, 9, 12, 13), (0, 9, 15, 26)] 5 1 6 [.ref x0, .int v0, .ref o] f (wP (if inR v0 1 64 then (if decide (cntP (pnB E) 64 ≤ ix v0) then 0 else 2) else 1) ((dropK 64 (kp - ix v0) (E, nI kp)).2) Γ o f (fun f' => CW Γ f' x0 mf ((dropK 64 (kp - ix v0) (E, nI kp)).1) ((dropK 64 (kp - ix v0) (E, nI kp)).2) us so sh sm np mon ng gs nt ts lim rf sp ((ix v0))) (fun f' => CW Γ f' x0 mf E cn us so sh sm np mon ng gs nt ts lim rf sp rr)) := by
  refine CtW_of (by decide +kernel) (Nat.le_of_ble_eq_true rfl) ?_
  intro p e s m args below meth c hx hb hr hml hown hlocks htab hts hH hO hK ls hl
  obtain ⟨lp, lg, lt, ca, tr, pl, ⟨hx0, -⟩, -⟩ := id hC
  have h34 := hm_c34 hK
  have hl : lv_has ls 4 [(0, .ref x0), (1, .int v0), (2, .ref o)] := hl
  have hS : va_S (gA Γ) s.heap s.heap [] := va_S.rf
  refine lv_aload_n hx hb dL_setRoom_0 rfl (lv_at hl 2 rfl) ?_
  refine lv_iconst (v := 0) hx hb dL_setRoom_1 (by decide) ?_
  refine lv_aload_n hx hb dL_setRoom_2 rfl (lv_at hl 0 rfl) ?_
  refine lv_iload_n hx hb dL_setRoom_3 rfl (lv_at hl 1 rfl) ?_
  refine hm_xVW (rest := [.int 0, .ref o]) (k := 4) q4_81 q4_82 q1_1 q4_84 q4_83 rfl nm_X7_setRoom rfl hx hb hml hown hts hK hO hS hH hl.1 hx0 (t_X7_setRoom Γ l x0 mf E cn us so sh sm np mon ng gs nt ts lim rf sp rr v0 f hst hC hnp hng hnt hr1 hrr hgs kp hkp hcn) ⟨Nat.le_of_ble_eq_true rfl, Nat.le_of_ble_eq_true rfl⟩ ⟨Nat.le_of_ble_eq_true rfl, Nat.le_of_ble_eq_true rfl⟩ rfl (Nat.le_of_ble_eq_true rfl) dL_setRoom_4 (fun E ce q9 f1_ H locs hp_ hH hS h4 h5 h6 => ?_) (fun v_ f1_ H locs hp_ hH hS => ?_)
  · obtain ⟨hk, hin, hN, hkM⟩ := hp_
    have hoe : f1_ o = some (eJ Γ 1 g0) := hkM _ _ ho rfl
    rcases hin with ⟨hE, hk2⟩ | ⟨hE, hk2⟩ | hF
    · have hE2 : "java/lang/IllegalArgumentException" = E := hE
      subst hE2
      have hk3 : (1 : Int32) = _ := hk2
      refine hm_catch (own := "TileWardenLaw") (name := "java/lang/IllegalArgumentException") hown hts hK [] { startPc := 0, endPc := 9, handlerPc := 12, catchType := 13 } [{ startPc := 0, endPc := 9, handlerPc := 15, catchType := 26 }] (htab.trans rfl) (fun z hz => by exact absurd hz List.not_mem_nil) rfl (by decide) q2_89 (by decide +kernel) h4 h5 h6 ?_
      refine lv_astore_n (lv' := [(3, .ref q9), (0, .ref x0), (1, .int v0), (2, .ref o)]) hx hb dL_setRoom_12 rfl hl (by decide) rfl (fun ls hl => ?_)
      refine lv_iconst (v := 1) hx hb dL_setRoom_13 (by decide) ?_
      exact hm_iret hx hb hr hlocks hS hH (⟨Or.inr ⟨hk, congrArg (fun q => some (Value.int q)) hk3, ⟨_, hoe⟩, hN⟩, hm_kO.of hkM⟩) (Nat.le_of_ble_eq_true rfl) (Nat.le_of_ble_eq_true rfl) dL_setRoom_14
    · have hE2 : "java/lang/UnsupportedOperationException" = E := hE
      subst hE2
      have hk3 : (2 : Int32) = _ := hk2
      refine hm_catch (own := "TileWardenLaw") (name := "java/lang/UnsupportedOperationException") hown hts hK [{ startPc := 0, endPc := 9, handlerPc := 12, catchType := 13 }] { startPc := 0, endPc := 9, handlerPc := 15, catchType := 26 } [] (htab.trans rfl) (fun z hz => by rcases List.mem_cons.mp hz with rfl | hz; exact ⟨by decide, "java/lang/IllegalArgumentException", q2_89, by decide +kernel⟩; exact absurd hz List.not_mem_nil) rfl (by decide) q3_126 (by decide +kernel) h4 h5 h6 ?_
      refine lv_astore_n (lv' := [(3, .ref q9), (0, .ref x0), (1, .int v0), (2, .ref o)]) hx hb dL_setRoom_15 rfl hl (by decide) rfl (fun ls hl => ?_)
      refine lv_iconst (v := 2) hx hb dL_setRoom_16 (by decide) ?_
      exact hm_iret hx hb hr hlocks hS hH (⟨Or.inr ⟨hk, congrArg (fun q => some (Value.int q)) hk3, ⟨_, hoe⟩, hN⟩, hm_kO.of hkM⟩) (Nat.le_of_ble_eq_true rfl) (Nat.le_of_ble_eq_true rfl) dL_setRoom_17
    · exact hF.elim
  obtain ⟨hk, rfl, hN, hkM⟩ := hp_
  have hoe : f1_ o = some (eJ Γ 1 g0) := hkM _ _ ho rfl
  obtain ⟨A_, eA_⟩ : ∃ A_, A_ = (dropK 64 (kp - ix v0) (E, nI kp)).2 := ⟨_, rfl⟩
  refine W.eq (g2 := F0 m 7 ls [.int A_, .int 0, .ref o]) (by rw [eA_]; rfl) ?_
  refine lv_i2l hx hb dL_setRoom_7 rfl ?_
  refine lv_topl (fun v1 ev1 => ?_)
  refine hm_last hx hb hK hO hS hH hoe (by unfold vp_in; decide) dL_setRoom_8 (fun H locs hH hS => ?_)
  rw [show (0 : Int32).toNatClampNeg = 0 from rfl] at hH
  obtain ⟨f2, ef2⟩ : ∃ zz_, zz_ = hm_up f1_ o (eJ Γ 1 (vp_updL g0 0 v1)) := ⟨_, rfl⟩
  have hH : hm_H Γ f2 H := by rw [ef2]; exact hH
  have h3 : f2 o = some (eJ Γ 1 (vp_updL g0 0 v1)) := by rw [ef2]; exact hm_us
  refine lv_goto (tgt := 18) hx hb dL_setRoom_9 (by decide) ?_
  refine lv_iconst (v := 0) hx hb dL_setRoom_18 (by decide) ?_
  subst ef2
  subst ev1
  exact hm_iret hx hb hr hlocks hS hH (⟨Or.inl ⟨hk, rfl, ⟨_, hm_us, by rw [eA_]; rfl⟩, CW.kpt hN h34 (hm_kd.up hoe rfl)⟩, (hm_kO.of hkM).up⟩) (Nat.le_of_ble_eq_true rfl) (Nat.le_of_ble_eq_true rfl) dL_setRoom_19
set_option maxHeartbeats 4000000 in
set_option maxRecDepth 100000 in
theorem l_isCached (Γ : Gm) (l : Launch) (x0 : Nat) (mf : Nat → Int32) (E : Nat → EV) (cn us : Int32) (so sh sm : Int64) (np : Nat) (mon : Nat → Int32) (ng : Nat) (gs : Nat → GS) (nt : Nat) (ts : Nat → TR) (lim : Int32) (rf sp : Int64) (rr : Nat) (o : Nat) (g0 : Nat → Int64) (v0 v1 : Int32) (f : Hm) (hst : l.stackTraces = false) (hC : CW Γ f x0 mf E cn us so sh sm np mon ng gs nt ts lim rf sp rr) (hnp : np ≤ 4) (hng : ng ≤ 8) (hnt : nt ≤ 60) (hr1 : 1 ≤ rr) (hrr : rr ≤ 64) (hgs : GOK np ng gs) (ho : f o = some (eJ Γ 1 g0)) : CtW Γ l yL_isCached cL_isCached 5 (some .int) [(0, 17, 20, 21), (0, 17, 24, 13)] 7 2 12 [.ref x0, .int v0, .int v1, .ref o] f (wP (if inB v0 (nI ng) then (if inR v1 1 4 then 0 else 2) else 1) (bI ((fstP (fun j => isFor (E j) (b5 (gs (ix v0)).2.1) (nI (gs (ix v0)).2.2.1) v1) 64).isSome)) Γ o f (fun f' => CW Γ f' x0 mf E cn us so sh sm np mon ng gs nt ts lim rf sp rr) (fun f' => CW Γ f' x0 mf E cn us so sh sm np mon ng gs nt ts lim rf sp rr)) := by
  refine CtW_of (by decide +kernel) (Nat.le_of_ble_eq_true rfl) ?_
  intro p e s m args below meth c hx hb hr hml hown hlocks htab hts hH hO hK ls hl
  obtain ⟨lp, lg, lt, ca, tr, pl, ⟨hx0, -⟩, -⟩ := id hC
  have h34 := hm_c34 hK
  have hl : lv_has ls 5 [(0, .ref x0), (1, .int v0), (2, .int v1), (3, .ref o)] := hl
  have hS : va_S (gA Γ) s.heap s.heap [] := va_S.rf
  refine lv_aload_n hx hb dL_isCached_0 rfl (lv_at hl 3 rfl) ?_
  refine lv_iconst (v := 0) hx hb dL_isCached_1 (by decide) ?_
  refine lv_aload_n hx hb dL_isCached_2 rfl (lv_at hl 0 rfl) ?_
  refine lv_iload_n hx hb dL_isCached_3 rfl (lv_at hl 1 rfl) ?_
  refine lv_iload_n hx hb dL_isCached_4 rfl (lv_at hl 2 rfl) ?_
  refine hm_xVW (rest := [.int 0, .ref o]) (k := 6) q4_94 q4_95 q1_1 q4_97 q4_96 rfl nm_X7_isCached rfl hx hb hml hown hts hK hO hS hH hl.1 hx0 (t_X7_isCached Γ l x0 mf E cn us so sh sm np mon ng gs nt ts lim rf sp rr v0 v1 f hst hC hnp hng hnt hr1 hrr hgs ) ⟨Nat.le_of_ble_eq_true rfl, Nat.le_of_ble_eq_true rfl⟩ ⟨Nat.le_of_ble_eq_true rfl, Nat.le_of_ble_eq_true rfl⟩ rfl (Nat.le_of_ble_eq_true rfl) dL_isCached_5 (fun E ce q9 f1_ H locs hp_ hH hS h4 h5 h6 => ?_) (fun v_ f1_ H locs hp_ hH hS => ?_)
  · obtain ⟨hk, hin, hN, hkM⟩ := hp_
    have hoe : f1_ o = some (eJ Γ 1 g0) := hkM _ _ ho rfl
    rcases hin with ⟨hE, hk2⟩ | ⟨hE, hk2⟩ | hF
    · have hE2 : "java/lang/IndexOutOfBoundsException" = E := hE
      subst hE2
      have hk3 : (1 : Int32) = _ := hk2
      refine hm_catch (own := "TileWardenLaw") (name := "java/lang/IndexOutOfBoundsException") hown hts hK [] { startPc := 0, endPc := 17, handlerPc := 20, catchType := 21 } [{ startPc := 0, endPc := 17, handlerPc := 24, catchType := 13 }] (htab.trans rfl) (fun z hz => by exact absurd hz List.not_mem_nil) rfl (by decide) q3_26 (by decide +kernel) h4 h5 h6 ?_
      refine lv_astore (lv' := [(4, .ref q9), (0, .ref x0), (1, .int v0), (2, .int v1), (3, .ref o)]) hx hb dL_isCached_20 hl (by decide) rfl (fun ls hl => ?_)
      refine lv_iconst (v := 1) hx hb dL_isCached_22 (by decide) ?_
      exact hm_iret hx hb hr hlocks hS hH (⟨Or.inr ⟨hk, congrArg (fun q => some (Value.int q)) hk3, ⟨_, hoe⟩, hN⟩, hm_kO.of hkM⟩) (Nat.le_of_ble_eq_true rfl) (Nat.le_of_ble_eq_true rfl) dL_isCached_23
    · have hE2 : "java/lang/IllegalArgumentException" = E := hE
      subst hE2
      have hk3 : (2 : Int32) = _ := hk2
      refine hm_catch (own := "TileWardenLaw") (name := "java/lang/IllegalArgumentException") hown hts hK [{ startPc := 0, endPc := 17, handlerPc := 20, catchType := 21 }] { startPc := 0, endPc := 17, handlerPc := 24, catchType := 13 } [] (htab.trans rfl) (fun z hz => by rcases List.mem_cons.mp hz with rfl | hz; exact ⟨by decide, "java/lang/IndexOutOfBoundsException", q3_26, by decide +kernel⟩; exact absurd hz List.not_mem_nil) rfl (by decide) q2_89 (by decide +kernel) h4 h5 h6 ?_
      refine lv_astore (lv' := [(4, .ref q9), (0, .ref x0), (1, .int v0), (2, .int v1), (3, .ref o)]) hx hb dL_isCached_24 hl (by decide) rfl (fun ls hl => ?_)
      refine lv_iconst (v := 2) hx hb dL_isCached_26 (by decide) ?_
      exact hm_iret hx hb hr hlocks hS hH (⟨Or.inr ⟨hk, congrArg (fun q => some (Value.int q)) hk3, ⟨_, hoe⟩, hN⟩, hm_kO.of hkM⟩) (Nat.le_of_ble_eq_true rfl) (Nat.le_of_ble_eq_true rfl) dL_isCached_27
    · exact hF.elim
  obtain ⟨hk, rfl, hN, hkM⟩ := hp_
  have hoe : f1_ o = some (eJ Γ 1 g0) := hkM _ _ ho rfl
  obtain ⟨b_, eb_⟩ : ∃ b_, b_ = ((fstP (fun j => isFor (E j) (b5 (gs (ix v0)).2.1) (nI (gs (ix v0)).2.2.1) v1) 64).isSome) := ⟨_, rfl⟩
  refine W.eq (g2 := F0 m 8 ls [.int (bI b_), .int 0, .ref o]) (by rw [eb_]; rfl) ?_
  refine lv_if_eq (tgt := 15) hx hb dL_isCached_8 (by decide) (fun c1 => ?_) (fun c1 => ?_)
  · refine lv_lconst (v := 0) hx hb dL_isCached_15 (by decide) ?_
    refine hm_last hx hb hK hO hS hH hoe (by unfold vp_in; decide) dL_isCached_16 (fun H locs hH hS => ?_)
    rw [show (0 : Int32).toNatClampNeg = 0 from rfl] at hH
    obtain ⟨f2, ef2⟩ : ∃ zz_, zz_ = hm_up f1_ o (eJ Γ 1 (vp_updL g0 0 0)) := ⟨_, rfl⟩
    have hH : hm_H Γ f2 H := by rw [ef2]; exact hH
    have h3 : f2 o = some (eJ Γ 1 (vp_updL g0 0 0)) := by rw [ef2]; exact hm_us
    refine lv_goto (tgt := 28) hx hb dL_isCached_17 (by decide) ?_
    refine lv_iconst (v := 0) hx hb dL_isCached_28 (by decide) ?_
    subst ef2
    exact hm_iret hx hb hr hlocks hS hH (⟨Or.inl ⟨hk, rfl, ⟨_, hm_us, by rw [← eb_, bI_0.mp c1]; rfl⟩, CW.kpt hN h34 (hm_kd.up hoe rfl)⟩, (hm_kO.of hkM).up⟩) (Nat.le_of_ble_eq_true rfl) (Nat.le_of_ble_eq_true rfl) dL_isCached_29
  · refine lv_lconst (v := 1) hx hb dL_isCached_11 (by decide) ?_
    refine lv_goto (tgt := 16) hx hb dL_isCached_12 (by decide) ?_
    refine hm_last hx hb hK hO hS hH hoe (by unfold vp_in; decide) dL_isCached_16 (fun H locs hH hS => ?_)
    rw [show (0 : Int32).toNatClampNeg = 0 from rfl] at hH
    obtain ⟨f4, ef4⟩ : ∃ zz_, zz_ = hm_up f1_ o (eJ Γ 1 (vp_updL g0 0 1)) := ⟨_, rfl⟩
    have hH : hm_H Γ f4 H := by rw [ef4]; exact hH
    have h5 : f4 o = some (eJ Γ 1 (vp_updL g0 0 1)) := by rw [ef4]; exact hm_us
    refine lv_goto (tgt := 28) hx hb dL_isCached_17 (by decide) ?_
    refine lv_iconst (v := 0) hx hb dL_isCached_28 (by decide) ?_
    subst ef4
    exact hm_iret hx hb hr hlocks hS hH (⟨Or.inl ⟨hk, rfl, ⟨_, hm_us, by rw [← eb_, bI_n.mp c1]; rfl⟩, CW.kpt hN h34 (hm_kd.up hoe rfl)⟩, (hm_kO.of hkM).up⟩) (Nat.le_of_ble_eq_true rfl) (Nat.le_of_ble_eq_true rfl) dL_isCached_29
set_option maxHeartbeats 4000000 in
set_option maxRecDepth 100000 in
theorem l_pin (Γ : Gm) (l : Launch) (x0 : Nat) (mf : Nat → Int32) (E : Nat → EV) (cn us : Int32) (so sh sm : Int64) (np : Nat) (mon : Nat → Int32) (ng : Nat) (gs : Nat → GS) (nt : Nat) (ts : Nat → TR) (lim : Int32) (rf sp : Int64) (rr : Nat) (o : Nat) (g0 : Nat → Int64) (v0 v1 : Int32) (f : Hm) (hst : l.stackTraces = false) (hC : CW Γ f x0 mf E cn us so sh sm np mon ng gs nt ts lim rf sp rr) (hnp : np ≤ 4) (hng : ng ≤ 8) (hnt : nt ≤ 60) (hr1 : 1 ≤ rr) (hrr : rr ≤ 64) (hgs : GOK np ng gs) (ho : f o = some (eJ Γ 1 g0)) : CtW Γ l yL_pin cL_pin 5 (some .int) [(0, 10, 13, 21), (0, 10, 17, 13), (0, 10, 21, 26), (0, 10, 25, 52)] 7 3 18 [.ref x0, .int v0, .int v1, .ref o] f (wP (if inB v0 (nI ng) then (if inR v1 1 4 then (if (!(gs (ix v0)).2.2.2.2.2.2.2.2) then (if (fstP (fun j => isFor (E j) (b5 (gs (ix v0)).2.1) (nI (gs (ix v0)).2.2.1) v1) 64).isSome then 0 else 4) else 3) else 2) else 1) (nI (cntP (fun j => bt (pinE E (fstP (fun j => isFor (E j) (b5 (gs (ix v0)).2.1) (nI (gs (ix v0)).2.2.1) v1) 64) (ix v0) j).2.2.2.2.2.2 (ix v0)) 64)) Γ o f (fun f' => CW Γ f' x0 mf ((pinE E (fstP (fun j => isFor (E j) (b5 (gs (ix v0)).2.1) (nI (gs (ix v0)).2.2.1) v1) 64) (ix v0))) cn us so sh sm np mon ng gs nt ts lim rf sp rr) (fun f' => CW Γ f' x0 mf E cn us so sh sm np mon ng gs nt ts lim rf sp rr)) := by
  refine CtW_of (by decide +kernel) (Nat.le_of_ble_eq_true rfl) ?_
  intro p e s m args below meth c hx hb hr hml hown hlocks htab hts hH hO hK ls hl
  obtain ⟨lp, lg, lt, ca, tr, pl, ⟨hx0, -⟩, -⟩ := id hC
  have h34 := hm_c34 hK
  have hl : lv_has ls 5 [(0, .ref x0), (1, .int v0), (2, .int v1), (3, .ref o)] := hl
  have hS : va_S (gA Γ) s.heap s.heap [] := va_S.rf
  refine lv_aload_n hx hb dL_pin_0 rfl (lv_at hl 3 rfl) ?_
  refine lv_iconst (v := 0) hx hb dL_pin_1 (by decide) ?_
  refine lv_aload_n hx hb dL_pin_2 rfl (lv_at hl 0 rfl) ?_
  refine lv_iload_n hx hb dL_pin_3 rfl (lv_at hl 1 rfl) ?_
  refine lv_iload_n hx hb dL_pin_4 rfl (lv_at hl 2 rfl) ?_
  refine hm_xVW (rest := [.int 0, .ref o]) (k := 6) q4_101 q4_102 q1_1 q4_104 q4_103 rfl nm_X7_pin rfl hx hb hml hown hts hK hO hS hH hl.1 hx0 (t_X7_pin Γ l x0 mf E cn us so sh sm np mon ng gs nt ts lim rf sp rr v0 v1 f hst hC hnp hng hnt hr1 hrr hgs ) ⟨Nat.le_of_ble_eq_true rfl, Nat.le_of_ble_eq_true rfl⟩ ⟨Nat.le_of_ble_eq_true rfl, Nat.le_of_ble_eq_true rfl⟩ rfl (Nat.le_of_ble_eq_true rfl) dL_pin_5 (fun E ce q9 f1_ H locs hp_ hH hS h4 h5 h6 => ?_) (fun v_ f1_ H locs hp_ hH hS => ?_)
  · obtain ⟨hk, hin, hN, hkM⟩ := hp_
    have hoe : f1_ o = some (eJ Γ 1 g0) := hkM _ _ ho rfl
    rcases hin with ⟨hE, hk2⟩ | ⟨hE, hk2⟩ | ⟨hE, hk2⟩ | ⟨hE, hk2⟩ | hF
    · have hE2 : "java/lang/IndexOutOfBoundsException" = E := hE
      subst hE2
      have hk3 : (1 : Int32) = _ := hk2
      refine hm_catch (own := "TileWardenLaw") (name := "java/lang/IndexOutOfBoundsException") hown hts hK [] { startPc := 0, endPc := 10, handlerPc := 13, catchType := 21 } [{ startPc := 0, endPc := 10, handlerPc := 17, catchType := 13 }, { startPc := 0, endPc := 10, handlerPc := 21, catchType := 26 }, { startPc := 0, endPc := 10, handlerPc := 25, catchType := 52 }] (htab.trans rfl) (fun z hz => by exact absurd hz List.not_mem_nil) rfl (by decide) q3_26 (by decide +kernel) h4 h5 h6 ?_
      refine lv_astore (lv' := [(4, .ref q9), (0, .ref x0), (1, .int v0), (2, .int v1), (3, .ref o)]) hx hb dL_pin_13 hl (by decide) rfl (fun ls hl => ?_)
      refine lv_iconst (v := 1) hx hb dL_pin_15 (by decide) ?_
      exact hm_iret hx hb hr hlocks hS hH (⟨Or.inr ⟨hk, congrArg (fun q => some (Value.int q)) hk3, ⟨_, hoe⟩, hN⟩, hm_kO.of hkM⟩) (Nat.le_of_ble_eq_true rfl) (Nat.le_of_ble_eq_true rfl) dL_pin_16
    · have hE2 : "java/lang/IllegalArgumentException" = E := hE
      subst hE2
      have hk3 : (2 : Int32) = _ := hk2
      refine hm_catch (own := "TileWardenLaw") (name := "java/lang/IllegalArgumentException") hown hts hK [{ startPc := 0, endPc := 10, handlerPc := 13, catchType := 21 }] { startPc := 0, endPc := 10, handlerPc := 17, catchType := 13 } [{ startPc := 0, endPc := 10, handlerPc := 21, catchType := 26 }, { startPc := 0, endPc := 10, handlerPc := 25, catchType := 52 }] (htab.trans rfl) (fun z hz => by rcases List.mem_cons.mp hz with rfl | hz; exact ⟨by decide, "java/lang/IndexOutOfBoundsException", q3_26, by decide +kernel⟩; exact absurd hz List.not_mem_nil) rfl (by decide) q2_89 (by decide +kernel) h4 h5 h6 ?_
      refine lv_astore (lv' := [(4, .ref q9), (0, .ref x0), (1, .int v0), (2, .int v1), (3, .ref o)]) hx hb dL_pin_17 hl (by decide) rfl (fun ls hl => ?_)
      refine lv_iconst (v := 2) hx hb dL_pin_19 (by decide) ?_
      exact hm_iret hx hb hr hlocks hS hH (⟨Or.inr ⟨hk, congrArg (fun q => some (Value.int q)) hk3, ⟨_, hoe⟩, hN⟩, hm_kO.of hkM⟩) (Nat.le_of_ble_eq_true rfl) (Nat.le_of_ble_eq_true rfl) dL_pin_20
    · have hE2 : "java/lang/UnsupportedOperationException" = E := hE
      subst hE2
      have hk3 : (3 : Int32) = _ := hk2
      refine hm_catch (own := "TileWardenLaw") (name := "java/lang/UnsupportedOperationException") hown hts hK [{ startPc := 0, endPc := 10, handlerPc := 13, catchType := 21 }, { startPc := 0, endPc := 10, handlerPc := 17, catchType := 13 }] { startPc := 0, endPc := 10, handlerPc := 21, catchType := 26 } [{ startPc := 0, endPc := 10, handlerPc := 25, catchType := 52 }] (htab.trans rfl) (fun z hz => by rcases List.mem_cons.mp hz with rfl | hz; exact ⟨by decide, "java/lang/IndexOutOfBoundsException", q3_26, by decide +kernel⟩; rcases List.mem_cons.mp hz with rfl | hz; exact ⟨by decide, "java/lang/IllegalArgumentException", q2_89, by decide +kernel⟩; exact absurd hz List.not_mem_nil) rfl (by decide) q3_126 (by decide +kernel) h4 h5 h6 ?_
      refine lv_astore (lv' := [(4, .ref q9), (0, .ref x0), (1, .int v0), (2, .int v1), (3, .ref o)]) hx hb dL_pin_21 hl (by decide) rfl (fun ls hl => ?_)
      refine lv_iconst (v := 3) hx hb dL_pin_23 (by decide) ?_
      exact hm_iret hx hb hr hlocks hS hH (⟨Or.inr ⟨hk, congrArg (fun q => some (Value.int q)) hk3, ⟨_, hoe⟩, hN⟩, hm_kO.of hkM⟩) (Nat.le_of_ble_eq_true rfl) (Nat.le_of_ble_eq_true rfl) dL_pin_24
    · have hE2 : "java/util/NoSuchElementException" = E := hE
      subst hE2
      have hk3 : (4 : Int32) = _ := hk2
      refine hm_catch (own := "TileWardenLaw") (name := "java/util/NoSuchElementException") hown hts hK [{ startPc := 0, endPc := 10, handlerPc := 13, catchType := 21 }, { startPc := 0, endPc := 10, handlerPc := 17, catchType := 13 }, { startPc := 0, endPc := 10, handlerPc := 21, catchType := 26 }] { startPc := 0, endPc := 10, handlerPc := 25, catchType := 52 } [] (htab.trans rfl) (fun z hz => by rcases List.mem_cons.mp hz with rfl | hz; exact ⟨by decide, "java/lang/IndexOutOfBoundsException", q3_26, by decide +kernel⟩; rcases List.mem_cons.mp hz with rfl | hz; exact ⟨by decide, "java/lang/IllegalArgumentException", q2_89, by decide +kernel⟩; rcases List.mem_cons.mp hz with rfl | hz; exact ⟨by decide, "java/lang/UnsupportedOperationException", q3_126, by decide +kernel⟩; exact absurd hz List.not_mem_nil) rfl (by decide) q4_16 (by decide +kernel) h4 h5 h6 ?_
      refine lv_astore (lv' := [(4, .ref q9), (0, .ref x0), (1, .int v0), (2, .int v1), (3, .ref o)]) hx hb dL_pin_25 hl (by decide) rfl (fun ls hl => ?_)
      refine lv_iconst (v := 4) hx hb dL_pin_27 (by decide) ?_
      exact hm_iret hx hb hr hlocks hS hH (⟨Or.inr ⟨hk, congrArg (fun q => some (Value.int q)) hk3, ⟨_, hoe⟩, hN⟩, hm_kO.of hkM⟩) (Nat.le_of_ble_eq_true rfl) (Nat.le_of_ble_eq_true rfl) dL_pin_28
    · exact hF.elim
  obtain ⟨hk, rfl, hN, hkM⟩ := hp_
  have hoe : f1_ o = some (eJ Γ 1 g0) := hkM _ _ ho rfl
  obtain ⟨A_, eA_⟩ : ∃ A_, A_ = nI (cntP (fun j => bt (pinE E (fstP (fun j => isFor (E j) (b5 (gs (ix v0)).2.1) (nI (gs (ix v0)).2.2.1) v1) 64) (ix v0) j).2.2.2.2.2.2 (ix v0)) 64) := ⟨_, rfl⟩
  refine W.eq (g2 := F0 m 8 ls [.int A_, .int 0, .ref o]) (by rw [eA_]; rfl) ?_
  refine lv_i2l hx hb dL_pin_8 rfl ?_
  refine lv_topl (fun v1 ev1 => ?_)
  refine hm_last hx hb hK hO hS hH hoe (by unfold vp_in; decide) dL_pin_9 (fun H locs hH hS => ?_)
  rw [show (0 : Int32).toNatClampNeg = 0 from rfl] at hH
  obtain ⟨f2, ef2⟩ : ∃ zz_, zz_ = hm_up f1_ o (eJ Γ 1 (vp_updL g0 0 v1)) := ⟨_, rfl⟩
  have hH : hm_H Γ f2 H := by rw [ef2]; exact hH
  have h3 : f2 o = some (eJ Γ 1 (vp_updL g0 0 v1)) := by rw [ef2]; exact hm_us
  refine lv_goto (tgt := 29) hx hb dL_pin_10 (by decide) ?_
  refine lv_iconst (v := 0) hx hb dL_pin_29 (by decide) ?_
  subst ef2
  subst ev1
  exact hm_iret hx hb hr hlocks hS hH (⟨Or.inl ⟨hk, rfl, ⟨_, hm_us, by rw [eA_]; rfl⟩, CW.kpt hN h34 (hm_kd.up hoe rfl)⟩, (hm_kO.of hkM).up⟩) (Nat.le_of_ble_eq_true rfl) (Nat.le_of_ble_eq_true rfl) dL_pin_30
set_option maxHeartbeats 4000000 in
set_option maxRecDepth 100000 in
theorem l_unpin (Γ : Gm) (l : Launch) (x0 : Nat) (mf : Nat → Int32) (E : Nat → EV) (cn us : Int32) (so sh sm : Int64) (np : Nat) (mon : Nat → Int32) (ng : Nat) (gs : Nat → GS) (nt : Nat) (ts : Nat → TR) (lim : Int32) (rf sp : Int64) (rr : Nat) (o : Nat) (g0 : Nat → Int64) (v0 : Int32) (f : Hm) (hst : l.stackTraces = false) (hC : CW Γ f x0 mf E cn us so sh sm np mon ng gs nt ts lim rf sp rr) (hnp : np ≤ 4) (hng : ng ≤ 8) (hnt : nt ≤ 60) (hr1 : 1 ≤ rr) (hrr : rr ≤ 64) (hgs : GOK np ng gs) (ho : f o = some (eJ Γ 1 g0)) : CtW Γ l yL_unpin cL_unpin 4 (some .int) [(0, 9, 12, 21)] 7 1 6 [.ref x0, .int v0, .ref o] f (wP (if inB v0 (nI ng) then 0 else 1) (nI (cntP (fun j => bt (E j).2.2.2.2.2.2 (ix v0)) 64)) Γ o f (fun f' => CW Γ f' x0 mf ((unpK E (ix v0))) cn us so sh sm np mon ng gs nt ts lim rf sp rr) (fun f' => CW Γ f' x0 mf E cn us so sh sm np mon ng gs nt ts lim rf sp rr)) := by
  refine CtW_of (by decide +kernel) (Nat.le_of_ble_eq_true rfl) ?_
  intro p e s m args below meth c hx hb hr hml hown hlocks htab hts hH hO hK ls hl
  obtain ⟨lp, lg, lt, ca, tr, pl, ⟨hx0, -⟩, -⟩ := id hC
  have h34 := hm_c34 hK
  have hl : lv_has ls 4 [(0, .ref x0), (1, .int v0), (2, .ref o)] := hl
  have hS : va_S (gA Γ) s.heap s.heap [] := va_S.rf
  refine lv_aload_n hx hb dL_unpin_0 rfl (lv_at hl 2 rfl) ?_
  refine lv_iconst (v := 0) hx hb dL_unpin_1 (by decide) ?_
  refine lv_aload_n hx hb dL_unpin_2 rfl (lv_at hl 0 rfl) ?_
  refine lv_iload_n hx hb dL_unpin_3 rfl (lv_at hl 1 rfl) ?_
  refine hm_xVW (rest := [.int 0, .ref o]) (k := 6) q4_114 q4_115 q1_1 q4_117 q4_116 rfl nm_X7_unpin rfl hx hb hml hown hts hK hO hS hH hl.1 hx0 (t_X7_unpin Γ l x0 mf E cn us so sh sm np mon ng gs nt ts lim rf sp rr v0 f hst hC hnp hng hnt hr1 hrr hgs ) ⟨Nat.le_of_ble_eq_true rfl, Nat.le_of_ble_eq_true rfl⟩ ⟨Nat.le_of_ble_eq_true rfl, Nat.le_of_ble_eq_true rfl⟩ rfl (Nat.le_of_ble_eq_true rfl) dL_unpin_4 (fun E ce q9 f1_ H locs hp_ hH hS h4 h5 h6 => ?_) (fun v_ f1_ H locs hp_ hH hS => ?_)
  · obtain ⟨hk, hin, hN, hkM⟩ := hp_
    have hoe : f1_ o = some (eJ Γ 1 g0) := hkM _ _ ho rfl
    rcases hin with ⟨hE, hk2⟩ | hF
    · have hE2 : "java/lang/IndexOutOfBoundsException" = E := hE
      subst hE2
      have hk3 : (1 : Int32) = _ := hk2
      refine hm_catch (own := "TileWardenLaw") (name := "java/lang/IndexOutOfBoundsException") hown hts hK [] { startPc := 0, endPc := 9, handlerPc := 12, catchType := 21 } [] (htab.trans rfl) (fun z hz => by exact absurd hz List.not_mem_nil) rfl (by decide) q3_26 (by decide +kernel) h4 h5 h6 ?_
      refine lv_astore_n (lv' := [(3, .ref q9), (0, .ref x0), (1, .int v0), (2, .ref o)]) hx hb dL_unpin_12 rfl hl (by decide) rfl (fun ls hl => ?_)
      refine lv_iconst (v := 1) hx hb dL_unpin_13 (by decide) ?_
      exact hm_iret hx hb hr hlocks hS hH (⟨Or.inr ⟨hk, congrArg (fun q => some (Value.int q)) hk3, ⟨_, hoe⟩, hN⟩, hm_kO.of hkM⟩) (Nat.le_of_ble_eq_true rfl) (Nat.le_of_ble_eq_true rfl) dL_unpin_14
    · exact hF.elim
  obtain ⟨hk, rfl, hN, hkM⟩ := hp_
  have hoe : f1_ o = some (eJ Γ 1 g0) := hkM _ _ ho rfl
  obtain ⟨A_, eA_⟩ : ∃ A_, A_ = nI (cntP (fun j => bt (E j).2.2.2.2.2.2 (ix v0)) 64) := ⟨_, rfl⟩
  refine W.eq (g2 := F0 m 7 ls [.int A_, .int 0, .ref o]) (by rw [eA_]; rfl) ?_
  refine lv_i2l hx hb dL_unpin_7 rfl ?_
  refine lv_topl (fun v1 ev1 => ?_)
  refine hm_last hx hb hK hO hS hH hoe (by unfold vp_in; decide) dL_unpin_8 (fun H locs hH hS => ?_)
  rw [show (0 : Int32).toNatClampNeg = 0 from rfl] at hH
  obtain ⟨f2, ef2⟩ : ∃ zz_, zz_ = hm_up f1_ o (eJ Γ 1 (vp_updL g0 0 v1)) := ⟨_, rfl⟩
  have hH : hm_H Γ f2 H := by rw [ef2]; exact hH
  have h3 : f2 o = some (eJ Γ 1 (vp_updL g0 0 v1)) := by rw [ef2]; exact hm_us
  refine lv_goto (tgt := 15) hx hb dL_unpin_9 (by decide) ?_
  refine lv_iconst (v := 0) hx hb dL_unpin_15 (by decide) ?_
  subst ef2
  subst ev1
  exact hm_iret hx hb hr hlocks hS hH (⟨Or.inl ⟨hk, rfl, ⟨_, hm_us, by rw [eA_]; rfl⟩, CW.kpt hN h34 (hm_kd.up hoe rfl)⟩, (hm_kO.of hkM).up⟩) (Nat.le_of_ble_eq_true rfl) (Nat.le_of_ble_eq_true rfl) dL_unpin_16
set_option maxHeartbeats 4000000 in
set_option maxRecDepth 100000 in
theorem l_follows (Γ : Gm) (l : Launch) (x0 : Nat) (mf : Nat → Int32) (E : Nat → EV) (cn us : Int32) (so sh sm : Int64) (np : Nat) (mon : Nat → Int32) (ng : Nat) (gs : Nat → GS) (nt : Nat) (ts : Nat → TR) (lim : Int32) (rf sp : Int64) (rr : Nat) (o : Nat) (g0 : Nat → Int64) (v0 : Int32) (f : Hm) (hst : l.stackTraces = false) (hC : CW Γ f x0 mf E cn us so sh sm np mon ng gs nt ts lim rf sp rr) (hnp : np ≤ 4) (hng : ng ≤ 8) (hnt : nt ≤ 60) (hr1 : 1 ≤ rr) (hrr : rr ≤ 64) (hgs : GOK np ng gs) (ho : f o = some (eJ Γ 1 g0)) : CtW Γ l yL_follows cL_follows 4 (some .int) [(0, 9, 12, 21)] 7 1 6 [.ref x0, .int v0, .ref o] f (wP (if inB v0 (nI ng) then 0 else 1) ((gs (ix v0)).2.2.2.2.2.2.1) Γ o f (fun f' => CW Γ f' x0 mf E cn us so sh sm np mon ng gs nt ts lim rf sp rr) (fun f' => CW Γ f' x0 mf E cn us so sh sm np mon ng gs nt ts lim rf sp rr)) := by
  refine CtW_of (by decide +kernel) (Nat.le_of_ble_eq_true rfl) ?_
  intro p e s m args below meth c hx hb hr hml hown hlocks htab hts hH hO hK ls hl
  obtain ⟨lp, lg, lt, ca, tr, pl, ⟨hx0, -⟩, -⟩ := id hC
  have h34 := hm_c34 hK
  have hl : lv_has ls 4 [(0, .ref x0), (1, .int v0), (2, .ref o)] := hl
  have hS : va_S (gA Γ) s.heap s.heap [] := va_S.rf
  refine lv_aload_n hx hb dL_follows_0 rfl (lv_at hl 2 rfl) ?_
  refine lv_iconst (v := 0) hx hb dL_follows_1 (by decide) ?_
  refine lv_aload_n hx hb dL_follows_2 rfl (lv_at hl 0 rfl) ?_
  refine lv_iload_n hx hb dL_follows_3 rfl (lv_at hl 1 rfl) ?_
  refine hm_xVW (rest := [.int 0, .ref o]) (k := 6) q4_125 q4_126 q1_1 q4_128 q4_127 rfl nm_X7_follows rfl hx hb hml hown hts hK hO hS hH hl.1 hx0 (t_X7_follows Γ l x0 mf E cn us so sh sm np mon ng gs nt ts lim rf sp rr v0 f hst hC hnp hng hnt hr1 hrr hgs ) ⟨Nat.le_of_ble_eq_true rfl, Nat.le_of_ble_eq_true rfl⟩ ⟨Nat.le_of_ble_eq_true rfl, Nat.le_of_ble_eq_true rfl⟩ rfl (Nat.le_of_ble_eq_true rfl) dL_follows_4 (fun E ce q9 f1_ H locs hp_ hH hS h4 h5 h6 => ?_) (fun v_ f1_ H locs hp_ hH hS => ?_)
  · obtain ⟨hk, hin, hN, hkM⟩ := hp_
    have hoe : f1_ o = some (eJ Γ 1 g0) := hkM _ _ ho rfl
    rcases hin with ⟨hE, hk2⟩ | hF
    · have hE2 : "java/lang/IndexOutOfBoundsException" = E := hE
      subst hE2
      have hk3 : (1 : Int32) = _ := hk2
      refine hm_catch (own := "TileWardenLaw") (name := "java/lang/IndexOutOfBoundsException") hown hts hK [] { startPc := 0, endPc := 9, handlerPc := 12, catchType := 21 } [] (htab.trans rfl) (fun z hz => by exact absurd hz List.not_mem_nil) rfl (by decide) q3_26 (by decide +kernel) h4 h5 h6 ?_
      refine lv_astore_n (lv' := [(3, .ref q9), (0, .ref x0), (1, .int v0), (2, .ref o)]) hx hb dL_follows_12 rfl hl (by decide) rfl (fun ls hl => ?_)
      refine lv_iconst (v := 1) hx hb dL_follows_13 (by decide) ?_
      exact hm_iret hx hb hr hlocks hS hH (⟨Or.inr ⟨hk, congrArg (fun q => some (Value.int q)) hk3, ⟨_, hoe⟩, hN⟩, hm_kO.of hkM⟩) (Nat.le_of_ble_eq_true rfl) (Nat.le_of_ble_eq_true rfl) dL_follows_14
    · exact hF.elim
  obtain ⟨hk, rfl, hN, hkM⟩ := hp_
  have hoe : f1_ o = some (eJ Γ 1 g0) := hkM _ _ ho rfl
  obtain ⟨A_, eA_⟩ : ∃ A_, A_ = (gs (ix v0)).2.2.2.2.2.2.1 := ⟨_, rfl⟩
  refine W.eq (g2 := F0 m 7 ls [.int A_, .int 0, .ref o]) (by rw [eA_]; rfl) ?_
  refine lv_i2l hx hb dL_follows_7 rfl ?_
  refine lv_topl (fun v1 ev1 => ?_)
  refine hm_last hx hb hK hO hS hH hoe (by unfold vp_in; decide) dL_follows_8 (fun H locs hH hS => ?_)
  rw [show (0 : Int32).toNatClampNeg = 0 from rfl] at hH
  obtain ⟨f2, ef2⟩ : ∃ zz_, zz_ = hm_up f1_ o (eJ Γ 1 (vp_updL g0 0 v1)) := ⟨_, rfl⟩
  have hH : hm_H Γ f2 H := by rw [ef2]; exact hH
  have h3 : f2 o = some (eJ Γ 1 (vp_updL g0 0 v1)) := by rw [ef2]; exact hm_us
  refine lv_goto (tgt := 15) hx hb dL_follows_9 (by decide) ?_
  refine lv_iconst (v := 0) hx hb dL_follows_15 (by decide) ?_
  subst ef2
  subst ev1
  exact hm_iret hx hb hr hlocks hS hH (⟨Or.inl ⟨hk, rfl, ⟨_, hm_us, by rw [eA_]; rfl⟩, CW.kpt hN h34 (hm_kd.up hoe rfl)⟩, (hm_kO.of hkM).up⟩) (Nat.le_of_ble_eq_true rfl) (Nat.le_of_ble_eq_true rfl) dL_follows_16
set_option maxHeartbeats 4000000 in
set_option maxRecDepth 100000 in
theorem l_setLimit (Γ : Gm) (l : Launch) (x0 : Nat) (mf : Nat → Int32) (E : Nat → EV) (cn us : Int32) (so sh sm : Int64) (np : Nat) (mon : Nat → Int32) (ng : Nat) (gs : Nat → GS) (nt : Nat) (ts : Nat → TR) (lim : Int32) (rf sp : Int64) (rr : Nat) (o : Nat) (g0 : Nat → Int64) (v0 : Int32) (f : Hm) (hst : l.stackTraces = false) (hC : CW Γ f x0 mf E cn us so sh sm np mon ng gs nt ts lim rf sp rr) (hnp : np ≤ 4) (hng : ng ≤ 8) (hnt : nt ≤ 60) (hr1 : 1 ≤ rr) (hrr : rr ≤ 64) (hgs : GOK np ng gs) (ho : f o = some (eJ Γ 1 g0)) : CtW Γ l yL_setLimit cL_setLimit 4 (some .int) [(0, 9, 12, 13)] 3 1 6 [.ref x0, .int v0, .ref o] f (wP (if inR v0 1 9 then 0 else 1) (lim) Γ o f (fun f' => CW Γ f' x0 mf E cn us so sh sm np mon ng gs nt ts v0 rf sp rr) (fun f' => CW Γ f' x0 mf E cn us so sh sm np mon ng gs nt ts lim rf sp rr)) := by
  refine CtW_of (by decide +kernel) (Nat.le_of_ble_eq_true rfl) ?_
  intro p e s m args below meth c hx hb hr hml hown hlocks htab hts hH hO hK ls hl
  obtain ⟨lp, lg, lt, ca, tr, pl, ⟨hx0, -⟩, -⟩ := id hC
  have h34 := hm_c34 hK
  have hl : lv_has ls 4 [(0, .ref x0), (1, .int v0), (2, .ref o)] := hl
  have hS : va_S (gA Γ) s.heap s.heap [] := va_S.rf
  refine lv_aload_n hx hb dL_setLimit_0 rfl (lv_at hl 2 rfl) ?_
  refine lv_iconst (v := 0) hx hb dL_setLimit_1 (by decide) ?_
  refine lv_aload_n hx hb dL_setLimit_2 rfl (lv_at hl 0 rfl) ?_
  refine lv_iload_n hx hb dL_setLimit_3 rfl (lv_at hl 1 rfl) ?_
  refine hm_xVW (rest := [.int 0, .ref o]) (k := 2) q4_132 q4_133 q1_1 q4_135 q4_134 rfl nm_X7_setLimit rfl hx hb hml hown hts hK hO hS hH hl.1 hx0 (t_X7_setLimit Γ l x0 mf E cn us so sh sm np mon ng gs nt ts lim rf sp rr v0 f hst hC hnp hng hnt hr1 hrr hgs ) ⟨Nat.le_of_ble_eq_true rfl, Nat.le_of_ble_eq_true rfl⟩ ⟨Nat.le_of_ble_eq_true rfl, Nat.le_of_ble_eq_true rfl⟩ rfl (Nat.le_of_ble_eq_true rfl) dL_setLimit_4 (fun E ce q9 f1_ H locs hp_ hH hS h4 h5 h6 => ?_) (fun v_ f1_ H locs hp_ hH hS => ?_)
  · obtain ⟨hk, hin, hN, hkM⟩ := hp_
    have hoe : f1_ o = some (eJ Γ 1 g0) := hkM _ _ ho rfl
    rcases hin with ⟨hE, hk2⟩ | hF
    · have hE2 : "java/lang/IllegalArgumentException" = E := hE
      subst hE2
      have hk3 : (1 : Int32) = _ := hk2
      refine hm_catch (own := "TileWardenLaw") (name := "java/lang/IllegalArgumentException") hown hts hK [] { startPc := 0, endPc := 9, handlerPc := 12, catchType := 13 } [] (htab.trans rfl) (fun z hz => by exact absurd hz List.not_mem_nil) rfl (by decide) q2_89 (by decide +kernel) h4 h5 h6 ?_
      refine lv_astore_n (lv' := [(3, .ref q9), (0, .ref x0), (1, .int v0), (2, .ref o)]) hx hb dL_setLimit_12 rfl hl (by decide) rfl (fun ls hl => ?_)
      refine lv_iconst (v := 1) hx hb dL_setLimit_13 (by decide) ?_
      exact hm_iret hx hb hr hlocks hS hH (⟨Or.inr ⟨hk, congrArg (fun q => some (Value.int q)) hk3, ⟨_, hoe⟩, hN⟩, hm_kO.of hkM⟩) (Nat.le_of_ble_eq_true rfl) (Nat.le_of_ble_eq_true rfl) dL_setLimit_14
    · exact hF.elim
  obtain ⟨hk, rfl, hN, hkM⟩ := hp_
  have hoe : f1_ o = some (eJ Γ 1 g0) := hkM _ _ ho rfl
  obtain ⟨A_, eA_⟩ : ∃ A_, A_ = lim := ⟨_, rfl⟩
  refine W.eq (g2 := F0 m 7 ls [.int A_, .int 0, .ref o]) (by rw [eA_]; rfl) ?_
  refine lv_i2l hx hb dL_setLimit_7 rfl ?_
  refine lv_topl (fun v1 ev1 => ?_)
  refine hm_last hx hb hK hO hS hH hoe (by unfold vp_in; decide) dL_setLimit_8 (fun H locs hH hS => ?_)
  rw [show (0 : Int32).toNatClampNeg = 0 from rfl] at hH
  obtain ⟨f2, ef2⟩ : ∃ zz_, zz_ = hm_up f1_ o (eJ Γ 1 (vp_updL g0 0 v1)) := ⟨_, rfl⟩
  have hH : hm_H Γ f2 H := by rw [ef2]; exact hH
  have h3 : f2 o = some (eJ Γ 1 (vp_updL g0 0 v1)) := by rw [ef2]; exact hm_us
  refine lv_goto (tgt := 15) hx hb dL_setLimit_9 (by decide) ?_
  refine lv_iconst (v := 0) hx hb dL_setLimit_15 (by decide) ?_
  subst ef2
  subst ev1
  exact hm_iret hx hb hr hlocks hS hH (⟨Or.inl ⟨hk, rfl, ⟨_, hm_us, by rw [eA_]; rfl⟩, CW.kpt hN h34 (hm_kd.up hoe rfl)⟩, (hm_kO.of hkM).up⟩) (Nat.le_of_ble_eq_true rfl) (Nat.le_of_ble_eq_true rfl) dL_setLimit_16
set_option maxHeartbeats 4000000 in
set_option maxRecDepth 100000 in
theorem l_judge (Γ : Gm) (l : Launch) (x0 : Nat) (mf : Nat → Int32) (E : Nat → EV) (cn us : Int32) (so sh sm : Int64) (np : Nat) (mon : Nat → Int32) (ng : Nat) (gs : Nat → GS) (nt : Nat) (ts : Nat → TR) (lim : Int32) (rf sp : Int64) (rr : Nat) (o : Nat) (g0 : Nat → Int64) (v0 : Int32) (f : Hm) (hst : l.stackTraces = false) (hC : CW Γ f x0 mf E cn us so sh sm np mon ng gs nt ts lim rf sp rr) (hnp : np ≤ 4) (hng : ng ≤ 8) (hnt : nt ≤ 60) (hr1 : 1 ≤ rr) (hrr : rr ≤ 64) (hgs : GOK np ng gs) (ho : f o = some (eJ Γ 1 g0)) : CtW Γ l yL_judge cL_judge 4 (some .int) [(0, 9, 12, 21), (0, 9, 15, 26)] 7 2 12 [.ref x0, .int v0, .ref o] f (wP (if inB v0 (nI ng) then (if (!(gs (ix v0)).2.2.2.2.2.2.2.2) then 0 else 2) else 1) ((if (gs (ix v0)).2.2.2.2.2.2.1 < lim then (-1) else (gs (ix v0)).2.2.2.2.2.2.2.1)) Γ o f (fun f' => CW Γ f' x0 mf ((if (gs (ix v0)).2.2.2.2.2.2.1 < lim then E else (unpK E (ix v0)))) cn us so sh sm np ((if (gs (ix v0)).2.2.2.2.2.2.1 < lim then mon else (upd mon (gs (ix v0)).1 (mon (gs (ix v0)).1 + (gs (ix v0)).2.2.2.2.2.2.2.1)))) ng ((if (gs (ix v0)).2.2.2.2.2.2.1 < lim then gs else (setG gs (ix v0) ((gs (ix v0)).1, (gs (ix v0)).2.1, (gs (ix v0)).2.2.1, (gs (ix v0)).2.2.2.1, (gs (ix v0)).2.2.2.2.1, (gs (ix v0)).2.2.2.2.2.1, (gs (ix v0)).2.2.2.2.2.2.1, (gs (ix v0)).2.2.2.2.2.2.2.1, true)))) nt ts lim ((if (gs (ix v0)).2.2.2.2.2.2.1 < lim then rf else (rf + (gs (ix v0)).2.2.2.2.2.2.2.1.toInt64))) sp rr) (fun f' => CW Γ f' x0 mf E cn us so sh sm np mon ng gs nt ts lim rf sp rr)) := by
  refine CtW_of (by decide +kernel) (Nat.le_of_ble_eq_true rfl) ?_
  intro p e s m args below meth c hx hb hr hml hown hlocks htab hts hH hO hK ls hl
  obtain ⟨lp, lg, lt, ca, tr, pl, ⟨hx0, -⟩, -⟩ := id hC
  have h34 := hm_c34 hK
  have hl : lv_has ls 4 [(0, .ref x0), (1, .int v0), (2, .ref o)] := hl
  have hS : va_S (gA Γ) s.heap s.heap [] := va_S.rf
  refine lv_aload_n hx hb dL_judge_0 rfl (lv_at hl 2 rfl) ?_
  refine lv_iconst (v := 0) hx hb dL_judge_1 (by decide) ?_
  refine lv_aload_n hx hb dL_judge_2 rfl (lv_at hl 0 rfl) ?_
  refine lv_iload_n hx hb dL_judge_3 rfl (lv_at hl 1 rfl) ?_
  refine hm_xVW (rest := [.int 0, .ref o]) (k := 6) q4_140 q4_141 q1_1 q4_143 q4_142 rfl nm_X7_judge rfl hx hb hml hown hts hK hO hS hH hl.1 hx0 (t_X7_judge Γ l x0 mf E cn us so sh sm np mon ng gs nt ts lim rf sp rr v0 f hst hC hnp hng hnt hr1 hrr hgs ) ⟨Nat.le_of_ble_eq_true rfl, Nat.le_of_ble_eq_true rfl⟩ ⟨Nat.le_of_ble_eq_true rfl, Nat.le_of_ble_eq_true rfl⟩ rfl (Nat.le_of_ble_eq_true rfl) dL_judge_4 (fun E ce q9 f1_ H locs hp_ hH hS h4 h5 h6 => ?_) (fun v_ f1_ H locs hp_ hH hS => ?_)
  · obtain ⟨hk, hin, hN, hkM⟩ := hp_
    have hoe : f1_ o = some (eJ Γ 1 g0) := hkM _ _ ho rfl
    rcases hin with ⟨hE, hk2⟩ | ⟨hE, hk2⟩ | hF
    · have hE2 : "java/lang/IndexOutOfBoundsException" = E := hE
      subst hE2
      have hk3 : (1 : Int32) = _ := hk2
      refine hm_catch (own := "TileWardenLaw") (name := "java/lang/IndexOutOfBoundsException") hown hts hK [] { startPc := 0, endPc := 9, handlerPc := 12, catchType := 21 } [{ startPc := 0, endPc := 9, handlerPc := 15, catchType := 26 }] (htab.trans rfl) (fun z hz => by exact absurd hz List.not_mem_nil) rfl (by decide) q3_26 (by decide +kernel) h4 h5 h6 ?_
      refine lv_astore_n (lv' := [(3, .ref q9), (0, .ref x0), (1, .int v0), (2, .ref o)]) hx hb dL_judge_12 rfl hl (by decide) rfl (fun ls hl => ?_)
      refine lv_iconst (v := 1) hx hb dL_judge_13 (by decide) ?_
      exact hm_iret hx hb hr hlocks hS hH (⟨Or.inr ⟨hk, congrArg (fun q => some (Value.int q)) hk3, ⟨_, hoe⟩, hN⟩, hm_kO.of hkM⟩) (Nat.le_of_ble_eq_true rfl) (Nat.le_of_ble_eq_true rfl) dL_judge_14
    · have hE2 : "java/lang/UnsupportedOperationException" = E := hE
      subst hE2
      have hk3 : (2 : Int32) = _ := hk2
      refine hm_catch (own := "TileWardenLaw") (name := "java/lang/UnsupportedOperationException") hown hts hK [{ startPc := 0, endPc := 9, handlerPc := 12, catchType := 21 }] { startPc := 0, endPc := 9, handlerPc := 15, catchType := 26 } [] (htab.trans rfl) (fun z hz => by rcases List.mem_cons.mp hz with rfl | hz; exact ⟨by decide, "java/lang/IndexOutOfBoundsException", q3_26, by decide +kernel⟩; exact absurd hz List.not_mem_nil) rfl (by decide) q3_126 (by decide +kernel) h4 h5 h6 ?_
      refine lv_astore_n (lv' := [(3, .ref q9), (0, .ref x0), (1, .int v0), (2, .ref o)]) hx hb dL_judge_15 rfl hl (by decide) rfl (fun ls hl => ?_)
      refine lv_iconst (v := 2) hx hb dL_judge_16 (by decide) ?_
      exact hm_iret hx hb hr hlocks hS hH (⟨Or.inr ⟨hk, congrArg (fun q => some (Value.int q)) hk3, ⟨_, hoe⟩, hN⟩, hm_kO.of hkM⟩) (Nat.le_of_ble_eq_true rfl) (Nat.le_of_ble_eq_true rfl) dL_judge_17
    · exact hF.elim
  obtain ⟨hk, rfl, hN, hkM⟩ := hp_
  have hoe : f1_ o = some (eJ Γ 1 g0) := hkM _ _ ho rfl
  obtain ⟨A_, eA_⟩ : ∃ A_, A_ = (if (gs (ix v0)).2.2.2.2.2.2.1 < lim then (-1) else (gs (ix v0)).2.2.2.2.2.2.2.1) := ⟨_, rfl⟩
  refine W.eq (g2 := F0 m 7 ls [.int A_, .int 0, .ref o]) (by rw [eA_]; rfl) ?_
  refine lv_i2l hx hb dL_judge_7 rfl ?_
  refine lv_topl (fun v1 ev1 => ?_)
  refine hm_last hx hb hK hO hS hH hoe (by unfold vp_in; decide) dL_judge_8 (fun H locs hH hS => ?_)
  rw [show (0 : Int32).toNatClampNeg = 0 from rfl] at hH
  obtain ⟨f2, ef2⟩ : ∃ zz_, zz_ = hm_up f1_ o (eJ Γ 1 (vp_updL g0 0 v1)) := ⟨_, rfl⟩
  have hH : hm_H Γ f2 H := by rw [ef2]; exact hH
  have h3 : f2 o = some (eJ Γ 1 (vp_updL g0 0 v1)) := by rw [ef2]; exact hm_us
  refine lv_goto (tgt := 18) hx hb dL_judge_9 (by decide) ?_
  refine lv_iconst (v := 0) hx hb dL_judge_18 (by decide) ?_
  subst ef2
  subst ev1
  exact hm_iret hx hb hr hlocks hS hH (⟨Or.inl ⟨hk, rfl, ⟨_, hm_us, by rw [eA_]; rfl⟩, CW.kpt hN h34 (hm_kd.up hoe rfl)⟩, (hm_kO.of hkM).up⟩) (Nat.le_of_ble_eq_true rfl) (Nat.le_of_ble_eq_true rfl) dL_judge_19
set_option maxHeartbeats 4000000 in
set_option maxRecDepth 100000 in
theorem l_isVoid (Γ : Gm) (l : Launch) (x0 : Nat) (mf : Nat → Int32) (E : Nat → EV) (cn us : Int32) (so sh sm : Int64) (np : Nat) (mon : Nat → Int32) (ng : Nat) (gs : Nat → GS) (nt : Nat) (ts : Nat → TR) (lim : Int32) (rf sp : Int64) (rr : Nat) (o : Nat) (g0 : Nat → Int64) (v0 : Int32) (f : Hm) (hst : l.stackTraces = false) (hC : CW Γ f x0 mf E cn us so sh sm np mon ng gs nt ts lim rf sp rr) (hnp : np ≤ 4) (hng : ng ≤ 8) (hnt : nt ≤ 60) (hr1 : 1 ≤ rr) (hrr : rr ≤ 64) (hgs : GOK np ng gs) (ho : f o = some (eJ Γ 1 g0)) : CtW Γ l yL_isVoid cL_isVoid 4 (some .int) [(0, 16, 19, 21)] 7 1 6 [.ref x0, .int v0, .ref o] f (wP (if inB v0 (nI ng) then 0 else 1) (bI (gs (ix v0)).2.2.2.2.2.2.2.2) Γ o f (fun f' => CW Γ f' x0 mf E cn us so sh sm np mon ng gs nt ts lim rf sp rr) (fun f' => CW Γ f' x0 mf E cn us so sh sm np mon ng gs nt ts lim rf sp rr)) := by
  refine CtW_of (by decide +kernel) (Nat.le_of_ble_eq_true rfl) ?_
  intro p e s m args below meth c hx hb hr hml hown hlocks htab hts hH hO hK ls hl
  obtain ⟨lp, lg, lt, ca, tr, pl, ⟨hx0, -⟩, -⟩ := id hC
  have h34 := hm_c34 hK
  have hl : lv_has ls 4 [(0, .ref x0), (1, .int v0), (2, .ref o)] := hl
  have hS : va_S (gA Γ) s.heap s.heap [] := va_S.rf
  refine lv_aload_n hx hb dL_isVoid_0 rfl (lv_at hl 2 rfl) ?_
  refine lv_iconst (v := 0) hx hb dL_isVoid_1 (by decide) ?_
  refine lv_aload_n hx hb dL_isVoid_2 rfl (lv_at hl 0 rfl) ?_
  refine lv_iload_n hx hb dL_isVoid_3 rfl (lv_at hl 1 rfl) ?_
  refine hm_xVW (rest := [.int 0, .ref o]) (k := 6) q4_148 q4_149 q1_1 q4_151 q4_150 rfl nm_X7_isVoid rfl hx hb hml hown hts hK hO hS hH hl.1 hx0 (t_X7_isVoid Γ l x0 mf E cn us so sh sm np mon ng gs nt ts lim rf sp rr v0 f hst hC hnp hng hnt hr1 hrr hgs ) ⟨Nat.le_of_ble_eq_true rfl, Nat.le_of_ble_eq_true rfl⟩ ⟨Nat.le_of_ble_eq_true rfl, Nat.le_of_ble_eq_true rfl⟩ rfl (Nat.le_of_ble_eq_true rfl) dL_isVoid_4 (fun E ce q9 f1_ H locs hp_ hH hS h4 h5 h6 => ?_) (fun v_ f1_ H locs hp_ hH hS => ?_)
  · obtain ⟨hk, hin, hN, hkM⟩ := hp_
    have hoe : f1_ o = some (eJ Γ 1 g0) := hkM _ _ ho rfl
    rcases hin with ⟨hE, hk2⟩ | hF
    · have hE2 : "java/lang/IndexOutOfBoundsException" = E := hE
      subst hE2
      have hk3 : (1 : Int32) = _ := hk2
      refine hm_catch (own := "TileWardenLaw") (name := "java/lang/IndexOutOfBoundsException") hown hts hK [] { startPc := 0, endPc := 16, handlerPc := 19, catchType := 21 } [] (htab.trans rfl) (fun z hz => by exact absurd hz List.not_mem_nil) rfl (by decide) q3_26 (by decide +kernel) h4 h5 h6 ?_
      refine lv_astore_n (lv' := [(3, .ref q9), (0, .ref x0), (1, .int v0), (2, .ref o)]) hx hb dL_isVoid_19 rfl hl (by decide) rfl (fun ls hl => ?_)
      refine lv_iconst (v := 1) hx hb dL_isVoid_20 (by decide) ?_
      exact hm_iret hx hb hr hlocks hS hH (⟨Or.inr ⟨hk, congrArg (fun q => some (Value.int q)) hk3, ⟨_, hoe⟩, hN⟩, hm_kO.of hkM⟩) (Nat.le_of_ble_eq_true rfl) (Nat.le_of_ble_eq_true rfl) dL_isVoid_21
    · exact hF.elim
  obtain ⟨hk, rfl, hN, hkM⟩ := hp_
  have hoe : f1_ o = some (eJ Γ 1 g0) := hkM _ _ ho rfl
  obtain ⟨b_, eb_⟩ : ∃ b_, b_ = (gs (ix v0)).2.2.2.2.2.2.2.2 := ⟨_, rfl⟩
  refine W.eq (g2 := F0 m 7 ls [.int (bI b_), .int 0, .ref o]) (by rw [eb_]; rfl) ?_
  refine lv_if_eq (tgt := 14) hx hb dL_isVoid_7 (by decide) (fun c1 => ?_) (fun c1 => ?_)
  · refine lv_lconst (v := 0) hx hb dL_isVoid_14 (by decide) ?_
    refine hm_last hx hb hK hO hS hH hoe (by unfold vp_in; decide) dL_isVoid_15 (fun H locs hH hS => ?_)
    rw [show (0 : Int32).toNatClampNeg = 0 from rfl] at hH
    obtain ⟨f2, ef2⟩ : ∃ zz_, zz_ = hm_up f1_ o (eJ Γ 1 (vp_updL g0 0 0)) := ⟨_, rfl⟩
    have hH : hm_H Γ f2 H := by rw [ef2]; exact hH
    have h3 : f2 o = some (eJ Γ 1 (vp_updL g0 0 0)) := by rw [ef2]; exact hm_us
    refine lv_goto (tgt := 22) hx hb dL_isVoid_16 (by decide) ?_
    refine lv_iconst (v := 0) hx hb dL_isVoid_22 (by decide) ?_
    subst ef2
    exact hm_iret hx hb hr hlocks hS hH (⟨Or.inl ⟨hk, rfl, ⟨_, hm_us, by rw [← eb_, bI_0.mp c1]; rfl⟩, CW.kpt hN h34 (hm_kd.up hoe rfl)⟩, (hm_kO.of hkM).up⟩) (Nat.le_of_ble_eq_true rfl) (Nat.le_of_ble_eq_true rfl) dL_isVoid_23
  · refine lv_lconst (v := 1) hx hb dL_isVoid_10 (by decide) ?_
    refine lv_goto (tgt := 15) hx hb dL_isVoid_11 (by decide) ?_
    refine hm_last hx hb hK hO hS hH hoe (by unfold vp_in; decide) dL_isVoid_15 (fun H locs hH hS => ?_)
    rw [show (0 : Int32).toNatClampNeg = 0 from rfl] at hH
    obtain ⟨f4, ef4⟩ : ∃ zz_, zz_ = hm_up f1_ o (eJ Γ 1 (vp_updL g0 0 1)) := ⟨_, rfl⟩
    have hH : hm_H Γ f4 H := by rw [ef4]; exact hH
    have h5 : f4 o = some (eJ Γ 1 (vp_updL g0 0 1)) := by rw [ef4]; exact hm_us
    refine lv_goto (tgt := 22) hx hb dL_isVoid_16 (by decide) ?_
    refine lv_iconst (v := 0) hx hb dL_isVoid_22 (by decide) ?_
    subst ef4
    exact hm_iret hx hb hr hlocks hS hH (⟨Or.inl ⟨hk, rfl, ⟨_, hm_us, by rw [← eb_, bI_n.mp c1]; rfl⟩, CW.kpt hN h34 (hm_kd.up hoe rfl)⟩, (hm_kO.of hkM).up⟩) (Nat.le_of_ble_eq_true rfl) (Nat.le_of_ble_eq_true rfl) dL_isVoid_23
set_option maxHeartbeats 4000000 in
set_option maxRecDepth 100000 in
theorem l_playerOf (Γ : Gm) (l : Launch) (x0 : Nat) (mf : Nat → Int32) (E : Nat → EV) (cn us : Int32) (so sh sm : Int64) (np : Nat) (mon : Nat → Int32) (ng : Nat) (gs : Nat → GS) (nt : Nat) (ts : Nat → TR) (lim : Int32) (rf sp : Int64) (rr : Nat) (o : Nat) (g0 : Nat → Int64) (v0 : Int32) (f : Hm) (hst : l.stackTraces = false) (hC : CW Γ f x0 mf E cn us so sh sm np mon ng gs nt ts lim rf sp rr) (hnp : np ≤ 4) (hng : ng ≤ 8) (hnt : nt ≤ 60) (hr1 : 1 ≤ rr) (hrr : rr ≤ 64) (hgs : GOK np ng gs) (ho : f o = some (eJ Γ 1 g0)) : CtW Γ l yL_playerOf cL_playerOf 4 (some .int) [(0, 9, 12, 21)] 7 1 6 [.ref x0, .int v0, .ref o] f (wP (if inB v0 (nI nt) then 0 else 1) (nI (ts (ix v0)).1) Γ o f (fun f' => CW Γ f' x0 mf E cn us so sh sm np mon ng gs nt ts lim rf sp rr) (fun f' => CW Γ f' x0 mf E cn us so sh sm np mon ng gs nt ts lim rf sp rr)) := by
  refine CtW_of (by decide +kernel) (Nat.le_of_ble_eq_true rfl) ?_
  intro p e s m args below meth c hx hb hr hml hown hlocks htab hts hH hO hK ls hl
  obtain ⟨lp, lg, lt, ca, tr, pl, ⟨hx0, -⟩, -⟩ := id hC
  have h34 := hm_c34 hK
  have hl : lv_has ls 4 [(0, .ref x0), (1, .int v0), (2, .ref o)] := hl
  have hS : va_S (gA Γ) s.heap s.heap [] := va_S.rf
  refine lv_aload_n hx hb dL_playerOf_0 rfl (lv_at hl 2 rfl) ?_
  refine lv_iconst (v := 0) hx hb dL_playerOf_1 (by decide) ?_
  refine lv_aload_n hx hb dL_playerOf_2 rfl (lv_at hl 0 rfl) ?_
  refine lv_iload_n hx hb dL_playerOf_3 rfl (lv_at hl 1 rfl) ?_
  refine hm_xVW (rest := [.int 0, .ref o]) (k := 6) q4_155 q4_156 q1_1 q4_158 q4_157 rfl nm_X7_playerOf rfl hx hb hml hown hts hK hO hS hH hl.1 hx0 (t_X7_playerOf Γ l x0 mf E cn us so sh sm np mon ng gs nt ts lim rf sp rr v0 f hst hC hnp hng hnt hr1 hrr hgs ) ⟨Nat.le_of_ble_eq_true rfl, Nat.le_of_ble_eq_true rfl⟩ ⟨Nat.le_of_ble_eq_true rfl, Nat.le_of_ble_eq_true rfl⟩ rfl (Nat.le_of_ble_eq_true rfl) dL_playerOf_4 (fun E ce q9 f1_ H locs hp_ hH hS h4 h5 h6 => ?_) (fun v_ f1_ H locs hp_ hH hS => ?_)
  · obtain ⟨hk, hin, hN, hkM⟩ := hp_
    have hoe : f1_ o = some (eJ Γ 1 g0) := hkM _ _ ho rfl
    rcases hin with ⟨hE, hk2⟩ | hF
    · have hE2 : "java/lang/IndexOutOfBoundsException" = E := hE
      subst hE2
      have hk3 : (1 : Int32) = _ := hk2
      refine hm_catch (own := "TileWardenLaw") (name := "java/lang/IndexOutOfBoundsException") hown hts hK [] { startPc := 0, endPc := 9, handlerPc := 12, catchType := 21 } [] (htab.trans rfl) (fun z hz => by exact absurd hz List.not_mem_nil) rfl (by decide) q3_26 (by decide +kernel) h4 h5 h6 ?_
      refine lv_astore_n (lv' := [(3, .ref q9), (0, .ref x0), (1, .int v0), (2, .ref o)]) hx hb dL_playerOf_12 rfl hl (by decide) rfl (fun ls hl => ?_)
      refine lv_iconst (v := 1) hx hb dL_playerOf_13 (by decide) ?_
      exact hm_iret hx hb hr hlocks hS hH (⟨Or.inr ⟨hk, congrArg (fun q => some (Value.int q)) hk3, ⟨_, hoe⟩, hN⟩, hm_kO.of hkM⟩) (Nat.le_of_ble_eq_true rfl) (Nat.le_of_ble_eq_true rfl) dL_playerOf_14
    · exact hF.elim
  obtain ⟨hk, rfl, hN, hkM⟩ := hp_
  have hoe : f1_ o = some (eJ Γ 1 g0) := hkM _ _ ho rfl
  obtain ⟨A_, eA_⟩ : ∃ A_, A_ = nI (ts (ix v0)).1 := ⟨_, rfl⟩
  refine W.eq (g2 := F0 m 7 ls [.int A_, .int 0, .ref o]) (by rw [eA_]; rfl) ?_
  refine lv_i2l hx hb dL_playerOf_7 rfl ?_
  refine lv_topl (fun v1 ev1 => ?_)
  refine hm_last hx hb hK hO hS hH hoe (by unfold vp_in; decide) dL_playerOf_8 (fun H locs hH hS => ?_)
  rw [show (0 : Int32).toNatClampNeg = 0 from rfl] at hH
  obtain ⟨f2, ef2⟩ : ∃ zz_, zz_ = hm_up f1_ o (eJ Γ 1 (vp_updL g0 0 v1)) := ⟨_, rfl⟩
  have hH : hm_H Γ f2 H := by rw [ef2]; exact hH
  have h3 : f2 o = some (eJ Γ 1 (vp_updL g0 0 v1)) := by rw [ef2]; exact hm_us
  refine lv_goto (tgt := 15) hx hb dL_playerOf_9 (by decide) ?_
  refine lv_iconst (v := 0) hx hb dL_playerOf_15 (by decide) ?_
  subst ef2
  subst ev1
  exact hm_iret hx hb hr hlocks hS hH (⟨Or.inl ⟨hk, rfl, ⟨_, hm_us, by rw [eA_]; rfl⟩, CW.kpt hN h34 (hm_kd.up hoe rfl)⟩, (hm_kO.of hkM).up⟩) (Nat.le_of_ble_eq_true rfl) (Nat.le_of_ble_eq_true rfl) dL_playerOf_16
set_option maxHeartbeats 4000000 in
set_option maxRecDepth 100000 in
theorem l_pushOf (Γ : Gm) (l : Launch) (x0 : Nat) (mf : Nat → Int32) (E : Nat → EV) (cn us : Int32) (so sh sm : Int64) (np : Nat) (mon : Nat → Int32) (ng : Nat) (gs : Nat → GS) (nt : Nat) (ts : Nat → TR) (lim : Int32) (rf sp : Int64) (rr : Nat) (o : Nat) (g0 : Nat → Int64) (v0 : Int32) (f : Hm) (hst : l.stackTraces = false) (hC : CW Γ f x0 mf E cn us so sh sm np mon ng gs nt ts lim rf sp rr) (hnp : np ≤ 4) (hng : ng ≤ 8) (hnt : nt ≤ 60) (hr1 : 1 ≤ rr) (hrr : rr ≤ 64) (hgs : GOK np ng gs) (ho : f o = some (eJ Γ 1 g0)) : CtW Γ l yL_pushOf cL_pushOf 4 (some .int) [(0, 9, 12, 21)] 7 1 6 [.ref x0, .int v0, .ref o] f (wP (if inB v0 (nI nt) then 0 else 1) ((ts (ix v0)).2.2.2) Γ o f (fun f' => CW Γ f' x0 mf E cn us so sh sm np mon ng gs nt ts lim rf sp rr) (fun f' => CW Γ f' x0 mf E cn us so sh sm np mon ng gs nt ts lim rf sp rr)) := by
  refine CtW_of (by decide +kernel) (Nat.le_of_ble_eq_true rfl) ?_
  intro p e s m args below meth c hx hb hr hml hown hlocks htab hts hH hO hK ls hl
  obtain ⟨lp, lg, lt, ca, tr, pl, ⟨hx0, -⟩, -⟩ := id hC
  have h34 := hm_c34 hK
  have hl : lv_has ls 4 [(0, .ref x0), (1, .int v0), (2, .ref o)] := hl
  have hS : va_S (gA Γ) s.heap s.heap [] := va_S.rf
  refine lv_aload_n hx hb dL_pushOf_0 rfl (lv_at hl 2 rfl) ?_
  refine lv_iconst (v := 0) hx hb dL_pushOf_1 (by decide) ?_
  refine lv_aload_n hx hb dL_pushOf_2 rfl (lv_at hl 0 rfl) ?_
  refine lv_iload_n hx hb dL_pushOf_3 rfl (lv_at hl 1 rfl) ?_
  refine hm_xVW (rest := [.int 0, .ref o]) (k := 6) q4_167 q4_168 q1_1 q4_170 q4_169 rfl nm_X7_pushOf rfl hx hb hml hown hts hK hO hS hH hl.1 hx0 (t_X7_pushOf Γ l x0 mf E cn us so sh sm np mon ng gs nt ts lim rf sp rr v0 f hst hC hnp hng hnt hr1 hrr hgs ) ⟨Nat.le_of_ble_eq_true rfl, Nat.le_of_ble_eq_true rfl⟩ ⟨Nat.le_of_ble_eq_true rfl, Nat.le_of_ble_eq_true rfl⟩ rfl (Nat.le_of_ble_eq_true rfl) dL_pushOf_4 (fun E ce q9 f1_ H locs hp_ hH hS h4 h5 h6 => ?_) (fun v_ f1_ H locs hp_ hH hS => ?_)
  · obtain ⟨hk, hin, hN, hkM⟩ := hp_
    have hoe : f1_ o = some (eJ Γ 1 g0) := hkM _ _ ho rfl
    rcases hin with ⟨hE, hk2⟩ | hF
    · have hE2 : "java/lang/IndexOutOfBoundsException" = E := hE
      subst hE2
      have hk3 : (1 : Int32) = _ := hk2
      refine hm_catch (own := "TileWardenLaw") (name := "java/lang/IndexOutOfBoundsException") hown hts hK [] { startPc := 0, endPc := 9, handlerPc := 12, catchType := 21 } [] (htab.trans rfl) (fun z hz => by exact absurd hz List.not_mem_nil) rfl (by decide) q3_26 (by decide +kernel) h4 h5 h6 ?_
      refine lv_astore_n (lv' := [(3, .ref q9), (0, .ref x0), (1, .int v0), (2, .ref o)]) hx hb dL_pushOf_12 rfl hl (by decide) rfl (fun ls hl => ?_)
      refine lv_iconst (v := 1) hx hb dL_pushOf_13 (by decide) ?_
      exact hm_iret hx hb hr hlocks hS hH (⟨Or.inr ⟨hk, congrArg (fun q => some (Value.int q)) hk3, ⟨_, hoe⟩, hN⟩, hm_kO.of hkM⟩) (Nat.le_of_ble_eq_true rfl) (Nat.le_of_ble_eq_true rfl) dL_pushOf_14
    · exact hF.elim
  obtain ⟨hk, rfl, hN, hkM⟩ := hp_
  have hoe : f1_ o = some (eJ Γ 1 g0) := hkM _ _ ho rfl
  obtain ⟨A_, eA_⟩ : ∃ A_, A_ = (ts (ix v0)).2.2.2 := ⟨_, rfl⟩
  refine W.eq (g2 := F0 m 7 ls [.int A_, .int 0, .ref o]) (by rw [eA_]; rfl) ?_
  refine lv_i2l hx hb dL_pushOf_7 rfl ?_
  refine lv_topl (fun v1 ev1 => ?_)
  refine hm_last hx hb hK hO hS hH hoe (by unfold vp_in; decide) dL_pushOf_8 (fun H locs hH hS => ?_)
  rw [show (0 : Int32).toNatClampNeg = 0 from rfl] at hH
  obtain ⟨f2, ef2⟩ : ∃ zz_, zz_ = hm_up f1_ o (eJ Γ 1 (vp_updL g0 0 v1)) := ⟨_, rfl⟩
  have hH : hm_H Γ f2 H := by rw [ef2]; exact hH
  have h3 : f2 o = some (eJ Γ 1 (vp_updL g0 0 v1)) := by rw [ef2]; exact hm_us
  refine lv_goto (tgt := 15) hx hb dL_pushOf_9 (by decide) ?_
  refine lv_iconst (v := 0) hx hb dL_pushOf_15 (by decide) ?_
  subst ef2
  subst ev1
  exact hm_iret hx hb hr hlocks hS hH (⟨Or.inl ⟨hk, rfl, ⟨_, hm_us, by rw [eA_]; rfl⟩, CW.kpt hN h34 (hm_kd.up hoe rfl)⟩, (hm_kO.of hkM).up⟩) (Nat.le_of_ble_eq_true rfl) (Nat.le_of_ble_eq_true rfl) dL_pushOf_16
