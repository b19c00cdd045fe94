/-! the law: hitShare, meanPrice -/
set_option maxHeartbeats 4000000 in
set_option maxRecDepth 100000 in
theorem l_hitShare (Γ : Gm) (l : Launch) (x0 : Nat) (mf : Nat → Int32) (E : Nat → EV) (cn us : Int32) (so sh sm : Int64) (np : Nat) (mon : Nat → Int32) (ng : Nat) (gs : Nat → GS) (nt : Nat) (ts : Nat → TR) (lim : Int32) (rf sp : Int64) (rr : Nat) (o : Nat) (g0 : Nat → UInt64) (a b : Nat) (f : Hm) (hst : l.stackTraces = false) (hC : CW Γ f x0 mf E cn us so sh sm np mon ng gs nt ts lim rf sp rr) (hnp : np ≤ 4) (hng : ng ≤ 8) (hnt : nt ≤ 60) (hr1 : 1 ≤ rr) (hrr : rr ≤ 64) (hgs : GOK np ng gs) (hsh : sh = lN a) (hsm : sm = lN b) (hab : a + b < 2 ^ 24) (ho : f o = some (eF Γ 1 g0)) : CtW Γ l yL_hitShare cL_hitShare 3 (some .int) [(0, 8, 11, 94)] 3 1 6 [.ref x0, .ref o] f (fun v f' => (((if decide (a + b = 0) then 1 else 0 : Int32) = 0 ∧ v = some (.int 0) ∧ (∃ g, f' o = some (eF Γ 1 g) ∧ g 0 = FP.f2d (FP.fdiv (FP.i2f (nI a)) (FP.i2f (nI (a + b))))) ∧ CW Γ f' x0 mf E cn us so sh sm np mon ng gs nt ts lim rf sp rr) ∨ ((if decide (a + b = 0) then 1 else 0 : Int32) ≠ 0 ∧ v = some (.int (if decide (a + b = 0) then 1 else 0)) ∧ (∃ g, f' o = some (eF Γ 1 g)) ∧ CW Γ f' x0 mf E cn us so sh sm np mon ng gs nt ts lim rf sp rr)) ∧ hm_kO o Γ f f') := by
  refine CtW_of (by decide +kernel) (Nat.le_of_ble_eq_true rfl) ?_
  intro p e s m args below meth c hx hb hr hml hown hlocks htab hts hH hO hK ls hl
  obtain ⟨lp, lg, lt, ca, tr, pl, ⟨hx0, -⟩, -⟩ := id hC
  have h34 := hm_c34 hK
  have hl : lv_has ls 3 [(0, .ref x0), (1, .ref o)] := hl
  have hS : va_S (gA Γ) s.heap s.heap [] := va_S.rf
  refine lv_aload_n hx hb dL_hitShare_0 rfl (lv_at hl 1 rfl) ?_
  refine lv_iconst (v := 0) hx hb dL_hitShare_1 (by decide) ?_
  refine lv_aload_n hx hb dL_hitShare_2 rfl (lv_at hl 0 rfl) ?_
  refine hm_xVW (rest := [.int 0, .ref o]) (k := 2) q4_188 q4_189 q1_1 q4_191 q4_190 rfl nm_X7_hitShare rfl hx hb hml hown hts hK hO hS hH hl.1 hx0 (t_X7_hitShare Γ l x0 mf E cn us so sh sm np mon ng gs nt ts lim rf sp rr a b f hst hC hnp hng hnt hr1 hrr hgs hsh hsm hab) ⟨Nat.le_of_ble_eq_true rfl, Nat.le_of_ble_eq_true rfl⟩ ⟨Nat.le_of_ble_eq_true rfl, Nat.le_of_ble_eq_true rfl⟩ rfl (Nat.le_of_ble_eq_true rfl) dL_hitShare_3 (fun E ce q9 f1_ H locs hp_ hH hS h4 h5 h6 => ?_) (fun v_ f1_ H locs hp_ hH hS => ?_)
  · obtain ⟨hk, hin, hN, hkM⟩ := hp_
    have hoe : f1_ o = some (eF Γ 1 g0) := hkM _ _ ho rfl
    rcases hin with ⟨hE, hk2⟩ | hF
    · have hE2 : "java/lang/ArithmeticException" = E := hE
      subst hE2
      have hk3 : (1 : Int32) = _ := hk2
      refine hm_catch (own := "TileWardenLaw") (name := "java/lang/ArithmeticException") hown hts hK [] { startPc := 0, endPc := 8, handlerPc := 11, catchType := 94 } [] (htab.trans rfl) (fun z hz => absurd hz List.not_mem_nil) rfl (by decide) q4_174 (by decide +kernel) h4 h5 h6 ?_
      refine lv_astore_n (lv' := [(2, .ref q9), (0, .ref x0), (1, .ref o)]) hx hb dL_hitShare_11 rfl hl (by decide) rfl (fun ls hl => ?_)
      refine lv_iconst (v := 1) hx hb dL_hitShare_12 (by decide) ?_
      exact hm_iret hx hb hr hlocks hS hH (⟨Or.inr ⟨hk, congrArg (fun q => some (Value.int q)) hk3, ⟨_, hoe⟩, hN⟩, hm_kO.of hkM⟩) (Nat.le_of_ble_eq_true rfl) (Nat.le_of_ble_eq_true rfl) dL_hitShare_13
    · exact hF.elim
  obtain ⟨hk, rfl, hN, hkM⟩ := hp_
  have hoe : f1_ o = some (eF Γ 1 g0) := hkM _ _ ho rfl
  refine W.eq (g2 := F0 m 6 ls [.float (FP.fdiv (FP.i2f (nI a)) (FP.i2f (nI (a + b)))), .int 0, .ref o]) rfl ?_
  refine lv_f2d hx hb dL_hitShare_6 (nan64 (fd_nn (fl_all (by have h_ : ¬ a + b = 0 := fun z => absurd hk (by rw [decide_eq_true z]; decide); omega) (by omega) _ (fl_num _)))) ?_
  refine hm_dast hx hb hK hO hS hH hoe (by unfold vp_in; decide) dL_hitShare_7 (fun H locs hH hS => ?_)
  rw [show (0 : Int32).toNatClampNeg = 0 from rfl] at hH
  obtain ⟨f1, ef1⟩ : ∃ zz_, zz_ = hm_up f1_ o (eF Γ 1 (vf_upd g0 0 (FP.f2d (FP.fdiv (FP.i2f (nI a)) (FP.i2f (nI (a + b))))))) := ⟨_, rfl⟩
  have hH : hm_H Γ f1 H := by rw [ef1]; exact hH
  have h2 : f1 o = some (eF Γ 1 (vf_upd g0 0 (FP.f2d (FP.fdiv (FP.i2f (nI a)) (FP.i2f (nI (a + b))))))) := by rw [ef1]; exact hm_us
  refine lv_goto (tgt := 14) hx hb dL_hitShare_8 (by decide) ?_
  refine lv_iconst (v := 0) hx hb dL_hitShare_14 (by decide) ?_
  subst ef1
  exact hm_iret hx hb hr hlocks hS hH (⟨Or.inl ⟨hk, rfl, ⟨_, hm_us, rfl⟩, CW.kpt hN h34 (hm_kd.up hoe rfl)⟩, (hm_kO.of hkM).up⟩) (Nat.le_of_ble_eq_true rfl) (Nat.le_of_ble_eq_true rfl) dL_hitShare_15
set_option maxHeartbeats 4000000 in
set_option maxRecDepth 100000 in
theorem l_meanPrice (Γ : Gm) (l : Launch) (x0 : Nat) (mf : Nat → Int32) (E : Nat → EV) (cn us : Int32) (so sh sm : Int64) (np : Nat) (mon : Nat → Int32) (ng : Nat) (gs : Nat → GS) (nt : Nat) (ts : Nat → TR) (lim : Int32) (rf sp : Int64) (rr : Nat) (o : Nat) (g0 : Nat → UInt64)  (f : Hm) (hst : l.stackTraces = false) (hC : CW Γ f x0 mf E cn us so sh sm np mon ng gs nt ts lim rf sp rr) (hnp : np ≤ 4) (hng : ng ≤ 8) (hnt : nt ≤ 60) (hr1 : 1 ≤ rr) (hrr : rr ≤ 64) (hgs : GOK np ng gs) (hso : so = lN nt) (ho : f o = some (eF Γ 1 g0)) : CtW Γ l yL_meanPrice cL_meanPrice 3 (some .int) [(0, 7, 10, 94)] 3 1 6 [.ref x0, .ref o] f (fun v f' => (((if decide (0 < nt) then 0 else 1 : Int32) = 0 ∧ v = some (.int 0) ∧ (∃ g, f' o = some (eF Γ 1 g) ∧ g 0 = (FP.ddiv (FP.l2d sp) (FP.i2d (nI nt)))) ∧ CW Γ f' x0 mf E cn us so sh sm np mon ng gs nt ts lim rf sp rr) ∨ ((if decide (0 < nt) then 0 else 1 : Int32) ≠ 0 ∧ v = some (.int (if decide (0 < nt) then 0 else 1)) ∧ (∃ g, f' o = some (eF Γ 1 g)) ∧ CW Γ f' x0 mf E cn us so sh sm np mon ng gs nt ts lim rf sp rr)) ∧ hm_kO o Γ f f') := by
  refine CtW_of (by decide +kernel) (Nat.le_of_ble_eq_true rfl) ?_
  intro p e s m args below meth c hx hb hr hml hown hlocks htab hts hH hO hK ls hl
  obtain ⟨lp, lg, lt, ca, tr, pl, ⟨hx0, -⟩, -⟩ := id hC
  have h34 := hm_c34 hK
  have hl : lv_has ls 3 [(0, .ref x0), (1, .ref o)] := hl
  have hS : va_S (gA Γ) s.heap s.heap [] := va_S.rf
  refine lv_aload_n hx hb dL_meanPrice_0 rfl (lv_at hl 1 rfl) ?_
  refine lv_iconst (v := 0) hx hb dL_meanPrice_1 (by decide) ?_
  refine lv_aload_n hx hb dL_meanPrice_2 rfl (lv_at hl 0 rfl) ?_
  refine hm_xVW (rest := [.int 0, .ref o]) (k := 2) q4_198 q4_199 q1_1 q4_201 q4_200 rfl nm_X7_meanPrice rfl hx hb hml hown hts hK hO hS hH hl.1 hx0 (t_X7_meanPrice Γ l x0 mf E cn us so sh sm np mon ng gs nt ts lim rf sp rr  f hst hC hnp hng hnt hr1 hrr hgs hso) ⟨Nat.le_of_ble_eq_true rfl, Nat.le_of_ble_eq_true rfl⟩ ⟨Nat.le_of_ble_eq_true rfl, Nat.le_of_ble_eq_true rfl⟩ rfl (Nat.le_of_ble_eq_true rfl) dL_meanPrice_3 (fun E ce q9 f1_ H locs hp_ hH hS h4 h5 h6 => ?_) (fun v_ f1_ H locs hp_ hH hS => ?_)
  · obtain ⟨hk, hin, hN, hkM⟩ := hp_
    have hoe : f1_ o = some (eF Γ 1 g0) := hkM _ _ ho rfl
    rcases hin with ⟨hE, hk2⟩ | hF
    · have hE2 : "java/lang/ArithmeticException" = E := hE
      subst hE2
      have hk3 : (1 : Int32) = _ := hk2
      refine hm_catch (own := "TileWardenLaw") (name := "java/lang/ArithmeticException") hown hts hK [] { startPc := 0, endPc := 7, handlerPc := 10, catchType := 94 } [] (htab.trans rfl) (fun z hz => absurd hz List.not_mem_nil) rfl (by decide) q4_174 (by decide +kernel) h4 h5 h6 ?_
      refine lv_astore_n (lv' := [(2, .ref q9), (0, .ref x0), (1, .ref o)]) hx hb dL_meanPrice_10 rfl hl (by decide) rfl (fun ls hl => ?_)
      refine lv_iconst (v := 1) hx hb dL_meanPrice_11 (by decide) ?_
      exact hm_iret hx hb hr hlocks hS hH (⟨Or.inr ⟨hk, congrArg (fun q => some (Value.int q)) hk3, ⟨_, hoe⟩, hN⟩, hm_kO.of hkM⟩) (Nat.le_of_ble_eq_true rfl) (Nat.le_of_ble_eq_true rfl) dL_meanPrice_12
    · exact hF.elim
  obtain ⟨hk, rfl, hN, hkM⟩ := hp_
  have hoe : f1_ o = some (eF Γ 1 g0) := hkM _ _ ho rfl
  refine W.eq (g2 := F0 m 6 ls [.double (FP.ddiv (FP.l2d sp) (FP.i2d (nI nt))), .int 0, .ref o]) rfl ?_
  refine hm_dast hx hb hK hO hS hH hoe (by unfold vp_in; decide) dL_meanPrice_6 (fun H locs hH hS => ?_)
  rw [show (0 : Int32).toNatClampNeg = 0 from rfl] at hH
  obtain ⟨f1, ef1⟩ : ∃ zz_, zz_ = hm_up f1_ o (eF Γ 1 (vf_upd g0 0 (FP.ddiv (FP.l2d sp) (FP.i2d (nI nt))))) := ⟨_, rfl⟩
  have hH : hm_H Γ f1 H := by rw [ef1]; exact hH
  have h2 : f1 o = some (eF Γ 1 (vf_upd g0 0 (FP.ddiv (FP.l2d sp) (FP.i2d (nI nt))))) := by rw [ef1]; exact hm_us
  refine lv_goto (tgt := 13) hx hb dL_meanPrice_7 (by decide) ?_
  refine lv_iconst (v := 0) hx hb dL_meanPrice_13 (by decide) ?_
  subst ef1
  exact hm_iret hx hb hr hlocks hS hH (⟨Or.inl ⟨hk, rfl, ⟨_, hm_us, rfl⟩, CW.kpt hN h34 (hm_kd.up hoe rfl)⟩, (hm_kO.of hkM).up⟩) (Nat.le_of_ble_eq_true rfl) (Nat.le_of_ble_eq_true rfl) dL_meanPrice_14
