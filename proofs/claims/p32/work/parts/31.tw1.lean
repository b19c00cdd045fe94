/-! TileWarden: what calls look up and refuse -/
set_option maxHeartbeats 4000000 in
set_option maxRecDepth 100000 in
theorem c_checkWay (Γ : Gm) (l : Launch) (v : Int32) (f : Hm) (hst : l.stackTraces = false) : Cx Γ l yX7_checkWay cX7_checkWay 1 (none : Option Jvm.ClassFile.FieldType) 2 1 6 [.int v] f (fun r f' => r = none ∧ (∃ i, i < 4 ∧ v = nI i) ∧ f' = f) (fun E f' => E = "java/lang/IllegalArgumentException" ∧ (∀ i, i < 4 → v ≠ nI i) ∧ f' = f) := by
  refine Cx_of (by decide +kernel) (Nat.le_of_ble_eq_true rfl) ?_
  intro p e s m args below meth c hx hb hr hml hown hin hlocks hout hts hH hO hK ls hl
  have hl0 := hl
  have hl : lv_has ls 1 [(0, .int v)] := hl
  have hS : va_S (gA Γ) s.heap s.heap [] := va_S.rf
  refine lv_iload_n hx hb dX7_checkWay_0 rfl (lv_at hl 0 rfl) ?_
  refine lv_if_lt (tgt := 9) hx hb dX7_checkWay_1 (by decide) (fun c1 => ?_) (fun c1 => ?_)
  · exact hm_thrW hx hb hst hml hl.1 hown q2_8 q1_12 (text := "there is no such way") (by decide) xA_IA (by decide +kernel) hts hK hO hS hH dX7_checkWay_9 dX7_checkWay_12 dX7_checkWay_13 dX7_checkWay_16 dX7_checkWay_19 hout hlocks (⟨rfl, rng_lo (n := 4) c1 (by decide), rfl⟩) (Nat.le_of_ble_eq_true rfl) (Nat.le_of_ble_eq_true rfl) (Nat.le_of_ble_eq_true rfl) (Nat.le_of_ble_eq_true rfl) (Nat.le_of_ble_eq_true rfl) (Nat.le_of_ble_eq_true rfl)
  · refine lv_iload_n hx hb dX7_checkWay_4 rfl (lv_at hl 0 rfl) ?_
    refine lv_iconst (v := 4) hx hb dX7_checkWay_5 (by decide) ?_
    refine lv_icmp_lt (tgt := 20) hx hb dX7_checkWay_6 (by decide) (fun c2 => ?_) (fun c2 => ?_)
    · exact vx_ret (hm_vret hx hb hr hlocks hS hH (⟨rfl, rng_in (n := 4) c1 c2 (by decide), rfl⟩) (Nat.le_of_ble_eq_true rfl) (Nat.le_of_ble_eq_true rfl) dX7_checkWay_20)
    · exact hm_thrW hx hb hst hml hl.1 hown q2_8 q1_12 (text := "there is no such way") (by decide) xA_IA (by decide +kernel) hts hK hO hS hH dX7_checkWay_9 dX7_checkWay_12 dX7_checkWay_13 dX7_checkWay_16 dX7_checkWay_19 hout hlocks (⟨rfl, rng_hi (n := 4) c2 (by decide), rfl⟩) (Nat.le_of_ble_eq_true rfl) (Nat.le_of_ble_eq_true rfl) (Nat.le_of_ble_eq_true rfl) (Nat.le_of_ble_eq_true rfl) (Nat.le_of_ble_eq_true rfl) (Nat.le_of_ble_eq_true rfl)
theorem dep_lo {v : Int32} {a : Nat} (h : v < nI a) (ha : a < 2 ^ 31) : ∀ i, a ≤ i → i ≤ 4 → v ≠ nI i := fun i h1 h2 q => absurd (q ▸ h) (fun z => absurd ((nI_ltI (a := i) (by omega) ha).mp z) (by omega))
theorem dep_hi {v : Int32} {a : Nat} (h : ¬ v ≤ 4) : ∀ i, a ≤ i → i ≤ 4 → v ≠ nI i := fun i h1 h2 q => h (by rw [q]; exact nI_le (b := 4) h2 (by decide))
theorem dep_in {v : Int32} {a : Nat} (h : ¬ v < nI a) (ha : a < 2 ^ 31) (h4 : v ≤ 4) : ∃ i, a ≤ i ∧ i ≤ 4 ∧ v = nI i := by
  have h0 : ¬ v < 0 := fun q => h (Int32.lt_of_lt_of_le q (nI_pos' ha))
  obtain ⟨j, hj, rfl⟩ := nI_of h0
  refine ⟨j, ?_, (nI_leI (b := 4) hj (by decide)).mp h4, rfl⟩
  exact Nat.not_lt.mp (fun q => h ((nI_ltI hj ha).mpr q))
set_option maxHeartbeats 4000000 in
set_option maxRecDepth 100000 in
theorem c_checkDepth (Γ : Gm) (l : Launch) (v : Int32) (a : Nat) (f : Hm) (hst : l.stackTraces = false) (ha : a < 2 ^ 31) : Cx Γ l yX7_checkDepth cX7_checkDepth 2 (none : Option Jvm.ClassFile.FieldType) 2 1 6 [.int v, .int (nI a)] f (fun r f' => r = none ∧ (∃ i, a ≤ i ∧ i ≤ 4 ∧ v = nI i) ∧ f' = f) (fun E f' => E = "java/lang/IllegalArgumentException" ∧ (∀ i, a ≤ i → i ≤ 4 → v ≠ nI i) ∧ f' = f) := by
  refine Cx_of (by decide +kernel) (Nat.le_of_ble_eq_true rfl) ?_
  intro p e s m args below meth c hx hb hr hml hown hin hlocks hout hts hH hO hK ls hl
  have hl0 := hl
  have hl : lv_has ls 2 [(0, .int v), (1, .int (nI a))] := hl
  have hS : va_S (gA Γ) s.heap s.heap [] := va_S.rf
  refine lv_iload_n hx hb dX7_checkDepth_0 rfl (lv_at hl 0 rfl) ?_
  refine lv_iload_n hx hb dX7_checkDepth_1 rfl (lv_at hl 1 rfl) ?_
  refine lv_icmp_lt (tgt := 10) hx hb dX7_checkDepth_2 (by decide) (fun c1 => ?_) (fun c1 => ?_)
  · exact hm_thrW hx hb hst hml hl.1 hown q2_8 q1_12 (text := "the depth is out of range") (by decide) xA_IA (by decide +kernel) hts hK hO hS hH dX7_checkDepth_10 dX7_checkDepth_13 dX7_checkDepth_14 dX7_checkDepth_17 dX7_checkDepth_20 hout hlocks (⟨rfl, dep_lo c1 ha, rfl⟩) (Nat.le_of_ble_eq_true rfl) (Nat.le_of_ble_eq_true rfl) (Nat.le_of_ble_eq_true rfl) (Nat.le_of_ble_eq_true rfl) (Nat.le_of_ble_eq_true rfl) (Nat.le_of_ble_eq_true rfl)
  · refine lv_iload_n hx hb dX7_checkDepth_5 rfl (lv_at hl 0 rfl) ?_
    refine lv_iconst (v := 4) hx hb dX7_checkDepth_6 (by decide) ?_
    refine lv_icmp_le (tgt := 21) hx hb dX7_checkDepth_7 (by decide) (fun c2 => ?_) (fun c2 => ?_)
    · exact vx_ret (hm_vret hx hb hr hlocks hS hH (⟨rfl, dep_in c1 ha c2, rfl⟩) (Nat.le_of_ble_eq_true rfl) (Nat.le_of_ble_eq_true rfl) dX7_checkDepth_21)
    · exact hm_thrW hx hb hst hml hl.1 hown q2_8 q1_12 (text := "the depth is out of range") (by decide) xA_IA (by decide +kernel) hts hK hO hS hH dX7_checkDepth_10 dX7_checkDepth_13 dX7_checkDepth_14 dX7_checkDepth_17 dX7_checkDepth_20 hout hlocks (⟨rfl, dep_hi c2, rfl⟩) (Nat.le_of_ble_eq_true rfl) (Nat.le_of_ble_eq_true rfl) (Nat.le_of_ble_eq_true rfl) (Nat.le_of_ble_eq_true rfl) (Nat.le_of_ble_eq_true rfl) (Nat.le_of_ble_eq_true rfl)
set_option maxHeartbeats 4000000 in
set_option maxRecDepth 100000 in
theorem c_checkHintable (Γ : Gm) (l : Launch) (ga : Nat) (o : Nat) (pb sc pc0 rw0 lr pd : Int32) (t : Nat → Nat) (z : Nat) (vd : Bool) (f : Hm) (hst : l.stackTraces = false) (ht : tl 31 t) (hg : f ga = some (eR 3 [.ref o, .int pb, .long (b5 t), .int (nI z), .int sc, .int pc0, .int rw0, .int lr, .int pd, .int (bI vd)])) : Cx Γ l yX7_checkHintable cX7_checkHintable 1 (none : Option Jvm.ClassFile.FieldType) 7 1 6 [.ref ga] f (fun r f' => r = none ∧ vd = false ∧ ovN t = false ∧ f' = f) (fun E f' => E = "java/lang/UnsupportedOperationException" ∧ (vd = true ∨ ovN t = true) ∧ f' = f) := by
  refine Cx_of (by decide +kernel) (Nat.le_of_ble_eq_true rfl) ?_
  intro p e s m args below meth c hx hb hr hml hown hin hlocks hout hts hH hO hK ls hl
  have hl0 := hl
  have hl : lv_has ls 1 [(0, .ref ga)] := hl
  have hS : va_S (gA Γ) s.heap s.heap [] := va_S.rf
  refine lv_aload_n hx hb dX7_checkHintable_0 rfl (lv_at hl 0 rfl) ?_
  refine gf_X7_108 hx hb hts hown hK hH hg rfl dX7_checkHintable_1 ?_
  refine lv_if_ne (tgt := 17) hx hb dX7_checkHintable_4 (by decide) (fun c1 => ?_) (fun c1 => ?_)
  · exact hm_thrW hx hb hst hml hl.1 hown q3_110 q1_25 (text := "the game is void or over") (by decide) xA_UO (by decide +kernel) hts hK hO hS hH dX7_checkHintable_17 dX7_checkHintable_20 dX7_checkHintable_21 dX7_checkHintable_24 dX7_checkHintable_27 hout hlocks (⟨rfl, Or.inl (bI_n.mp c1), rfl⟩) (Nat.le_of_ble_eq_true rfl) (Nat.le_of_ble_eq_true rfl) (Nat.le_of_ble_eq_true rfl) (Nat.le_of_ble_eq_true rfl) (Nat.le_of_ble_eq_true rfl) (Nat.le_of_ble_eq_true rfl)
  · refine lv_aload_n hx hb dX7_checkHintable_7 rfl (lv_at hl 0 rfl) ?_
    refine gf_X7_112 hx hb hts hown hK hH hg rfl dX7_checkHintable_8 ?_
    refine hm_callS (rest := []) (k := 6) q3_159 q3_160 q1_24 q3_161 nm_X0_isStuck rfl hx hb hml hown hts hK hO hS hH hl.1 (c_X0_isStuck Γ l t f ht) ⟨Nat.le_of_ble_eq_true rfl, Nat.le_of_ble_eq_true rfl⟩ ⟨Nat.le_of_ble_eq_true rfl, Nat.le_of_ble_eq_true rfl⟩ rfl (Nat.le_of_ble_eq_true rfl) dX7_checkHintable_11 (fun v_ f_ H locs hp_ hH hS => ?_)
    obtain ⟨rfl, ef_⟩ := hp_
    rw [ef_] at hH
    clear ef_
    refine W.eq (g2 := F0 m 14 ls [.int (bI (ovN t))]) rfl ?_
    refine lv_if_eq (tgt := 28) hx hb dX7_checkHintable_14 (by decide) (fun c2 => ?_) (fun c2 => ?_)
    · exact vx_ret (hm_vret hx hb hr hlocks hS hH (⟨rfl, bI_0.mp c1, bI_0.mp c2, rfl⟩) (Nat.le_of_ble_eq_true rfl) (Nat.le_of_ble_eq_true rfl) dX7_checkHintable_28)
    · exact hm_thrW hx hb hst hml hl.1 hown q3_110 q1_25 (text := "the game is void or over") (by decide) xA_UO (by decide +kernel) hts hK hO hS hH dX7_checkHintable_17 dX7_checkHintable_20 dX7_checkHintable_21 dX7_checkHintable_24 dX7_checkHintable_27 hout hlocks (⟨rfl, Or.inr (bI_n.mp c2), rfl⟩) (Nat.le_of_ble_eq_true rfl) (Nat.le_of_ble_eq_true rfl) (Nat.le_of_ble_eq_true rfl) (Nat.le_of_ble_eq_true rfl) (Nat.le_of_ble_eq_true rfl) (Nat.le_of_ble_eq_true rfl)
set_option maxHeartbeats 4000000 in
set_option maxRecDepth 100000 in
theorem c_findPlayer (Γ : Gm) (l : Launch) (x0 lp lg lt ca tr pl : Nat) (lim : Int32) (rf so sp sh sm : Int64) (ar cap n : Nat) (L : Nat → Nat) (v : Int32) (f : Hm) (hst : l.stackTraces = false) (hx0 : f x0 = some (eR 7 [.ref lp, .ref lg, .ref lt, .ref ca, .ref tr, .ref pl, .int lim, .long rf, .long so, .long sp, .long sh, .long sm])) (hL : LI Γ f lp ar cap n L) (hn : n ≤ 60) (hc : cap < 2 ^ 31) (hg : ∀ i, i < n → ∃ fs, f (L i) = some (eR 4 fs)) : Cx Γ l yX7_findPlayer cX7_findPlayer 2 (some (.object "TileWarden$Player")) 4 1 6 [.ref x0, .int v] f (fun r f' => ∃ i, i < n ∧ v = nI i ∧ r = some (.ref (L i)) ∧ f' = f) (fun E f' => E = "java/lang/IndexOutOfBoundsException" ∧ (∀ i, i < n → v ≠ nI i) ∧ f' = f) := by
  refine Cx_of (by decide +kernel) (Nat.le_of_ble_eq_true rfl) ?_
  intro p e s m args below meth c hx hb hr hml hown hin hlocks hout hts hH hO hK ls hl
  have hl0 := hl
  have hl : lv_has ls 2 [(0, .ref x0), (1, .int v)] := hl
  have hS : va_S (gA Γ) s.heap s.heap [] := va_S.rf
  obtain ⟨⟨moL, hlL⟩, -⟩ := id hL
  refine lv_iload_n hx hb dX7_findPlayer_0 rfl (lv_at hl 1 rfl) ?_
  refine lv_if_lt (tgt := 15) hx hb dX7_findPlayer_1 (by decide) (fun c1 => ?_) (fun c1 => ?_)
  · exact hm_thrW hx hb hst hml hl.1 hown q2_216 q1_18 (text := "there is no such player") (by decide) xA_IO (by decide +kernel) hts hK hO hS hH dX7_findPlayer_15 dX7_findPlayer_18 dX7_findPlayer_19 dX7_findPlayer_22 dX7_findPlayer_25 hout hlocks (⟨rfl, rng_lo c1 (by omega), rfl⟩) (Nat.le_of_ble_eq_true rfl) (Nat.le_of_ble_eq_true rfl) (Nat.le_of_ble_eq_true rfl) (Nat.le_of_ble_eq_true rfl) (Nat.le_of_ble_eq_true rfl) (Nat.le_of_ble_eq_true rfl)
  · refine lv_iload_n hx hb dX7_findPlayer_4 rfl (lv_at hl 1 rfl) ?_
    refine lv_aload_n hx hb dX7_findPlayer_5 rfl (lv_at hl 0 rfl) ?_
    refine gf_X7_10 hx hb hts hown hK hH hx0 rfl dX7_findPlayer_6 ?_
    refine hm_callV (rest := [.int v]) (k := 1) q1_210 q1_211 q1_4 q1_213 q1_212 rfl nm_Jx4a65c_size_8abf5 rfl hx hb hml hown hts hK hO hS hH hl.1 hlL (c_size Γ l lp ar cap n L f hL) ⟨Nat.le_of_ble_eq_true rfl, Nat.le_of_ble_eq_true rfl⟩ ⟨Nat.le_of_ble_eq_true rfl, Nat.le_of_ble_eq_true rfl⟩ rfl (Nat.le_of_ble_eq_true rfl) dX7_findPlayer_9 (fun v_ f_ H locs hp_ hH hS => ?_)
    obtain ⟨rfl, ef_⟩ := hp_
    rw [ef_] at hH
    clear ef_
    refine W.eq (g2 := F0 m 12 ls [.int (nI n), .int v]) rfl ?_
    refine lv_icmp_lt (tgt := 26) hx hb dX7_findPlayer_12 (by decide) (fun c2 => ?_) (fun c2 => ?_)
    · refine lv_aload_n hx hb dX7_findPlayer_26 rfl (lv_at hl 0 rfl) ?_
      refine gf_X7_10 hx hb hts hown hK hH hx0 rfl dX7_findPlayer_27 ?_
      refine lv_iload_n hx hb dX7_findPlayer_30 rfl (lv_at hl 1 rfl) ?_
      obtain ⟨i, hi, rfl⟩ := rng_in c1 c2 (by omega)
      obtain ⟨fs, hfi⟩ := hg i hi
      obtain ⟨⟨mo_, hl0_⟩, -⟩ := id hL
      refine hm_callV (rest := []) (k := 3) q2_229 q2_230 q1_4 q2_232 q2_231 rfl nm_Jx4a65c_get_915e3 rfl hx hb hml hown hts hK hO hS hH hl.1 hl0_ (c_get Γ l lp ar cap n L i f hL hi hc) ⟨Nat.le_of_ble_eq_true rfl, Nat.le_of_ble_eq_true rfl⟩ ⟨Nat.le_of_ble_eq_true rfl, Nat.le_of_ble_eq_true rfl⟩ rfl (Nat.le_of_ble_eq_true rfl) dX7_findPlayer_31 (fun v_ f_ H locs hp_ hH hS => ?_)
      obtain ⟨rfl, ef_⟩ := hp_
      rw [ef_] at hH
      clear ef_
      refine W.eq (g2 := F0 m 34 ls [.ref (L i)]) rfl ?_
      refine hm_castR hx hb hts hown q2_96 hK hH hfi rfl dX7_findPlayer_34 ?_
      exact vx_ret (hm_aret hx hb hr (Or.inl ⟨_, rfl⟩) (Or.inr ⟨_, rfl⟩) hlocks hS hH (⟨i, hi, rfl, rfl, rfl⟩) (Nat.le_of_ble_eq_true rfl) (Nat.le_of_ble_eq_true rfl) dX7_findPlayer_37)
    · exact hm_thrW hx hb hst hml hl.1 hown q2_216 q1_18 (text := "there is no such player") (by decide) xA_IO (by decide +kernel) hts hK hO hS hH dX7_findPlayer_15 dX7_findPlayer_18 dX7_findPlayer_19 dX7_findPlayer_22 dX7_findPlayer_25 hout hlocks (⟨rfl, rng_hi c2 (by omega), rfl⟩) (Nat.le_of_ble_eq_true rfl) (Nat.le_of_ble_eq_true rfl) (Nat.le_of_ble_eq_true rfl) (Nat.le_of_ble_eq_true rfl) (Nat.le_of_ble_eq_true rfl) (Nat.le_of_ble_eq_true rfl)
set_option maxHeartbeats 4000000 in
set_option maxRecDepth 100000 in
theorem c_findGame (Γ : Gm) (l : Launch) (x0 lp lg lt ca tr pl : Nat) (lim : Int32) (rf so sp sh sm : Int64) (ar cap n : Nat) (L : Nat → Nat) (v : Int32) (f : Hm) (hst : l.stackTraces = false) (hx0 : f x0 = some (eR 7 [.ref lp, .ref lg, .ref lt, .ref ca, .ref tr, .ref pl, .int lim, .long rf, .long so, .long sp, .long sh, .long sm])) (hL : LI Γ f lg ar cap n L) (hn : n ≤ 60) (hc : cap < 2 ^ 31) (hg : ∀ i, i < n → ∃ fs, f (L i) = some (eR 3 fs)) : Cx Γ l yX7_findGame cX7_findGame 2 (some (.object "TileWarden$Game")) 4 1 6 [.ref x0, .int v] f (fun r f' => ∃ i, i < n ∧ v = nI i ∧ r = some (.ref (L i)) ∧ f' = f) (fun E f' => E = "java/lang/IndexOutOfBoundsException" ∧ (∀ i, i < n → v ≠ nI i) ∧ f' = f) := by
  refine Cx_of (by decide +kernel) (Nat.le_of_ble_eq_true rfl) ?_
  intro p e s m args below meth c hx hb hr hml hown hin hlocks hout hts hH hO hK ls hl
  have hl0 := hl
  have hl : lv_has ls 2 [(0, .ref x0), (1, .int v)] := hl
  have hS : va_S (gA Γ) s.heap s.heap [] := va_S.rf
  obtain ⟨⟨moL, hlL⟩, -⟩ := id hL
  refine lv_iload_n hx hb dX7_findGame_0 rfl (lv_at hl 1 rfl) ?_
  refine lv_if_lt (tgt := 15) hx hb dX7_findGame_1 (by decide) (fun c1 => ?_) (fun c1 => ?_)
  · exact hm_thrW hx hb hst hml hl.1 hown q2_216 q1_18 (text := "there is no such game") (by decide) xA_IO (by decide +kernel) hts hK hO hS hH dX7_findGame_15 dX7_findGame_18 dX7_findGame_19 dX7_findGame_22 dX7_findGame_25 hout hlocks (⟨rfl, rng_lo c1 (by omega), rfl⟩) (Nat.le_of_ble_eq_true rfl) (Nat.le_of_ble_eq_true rfl) (Nat.le_of_ble_eq_true rfl) (Nat.le_of_ble_eq_true rfl) (Nat.le_of_ble_eq_true rfl) (Nat.le_of_ble_eq_true rfl)
  · refine lv_iload_n hx hb dX7_findGame_4 rfl (lv_at hl 1 rfl) ?_
    refine lv_aload_n hx hb dX7_findGame_5 rfl (lv_at hl 0 rfl) ?_
    refine gf_X7_16 hx hb hts hown hK hH hx0 rfl dX7_findGame_6 ?_
    refine hm_callV (rest := [.int v]) (k := 1) q1_210 q1_211 q1_4 q1_213 q1_212 rfl nm_Jx4a65c_size_8abf5 rfl hx hb hml hown hts hK hO hS hH hl.1 hlL (c_size Γ l lg ar cap n L f hL) ⟨Nat.le_of_ble_eq_true rfl, Nat.le_of_ble_eq_true rfl⟩ ⟨Nat.le_of_ble_eq_true rfl, Nat.le_of_ble_eq_true rfl⟩ rfl (Nat.le_of_ble_eq_true rfl) dX7_findGame_9 (fun v_ f_ H locs hp_ hH hS => ?_)
    obtain ⟨rfl, ef_⟩ := hp_
    rw [ef_] at hH
    clear ef_
    refine W.eq (g2 := F0 m 12 ls [.int (nI n), .int v]) rfl ?_
    refine lv_icmp_lt (tgt := 26) hx hb dX7_findGame_12 (by decide) (fun c2 => ?_) (fun c2 => ?_)
    · refine lv_aload_n hx hb dX7_findGame_26 rfl (lv_at hl 0 rfl) ?_
      refine gf_X7_16 hx hb hts hown hK hH hx0 rfl dX7_findGame_27 ?_
      refine lv_iload_n hx hb dX7_findGame_30 rfl (lv_at hl 1 rfl) ?_
      obtain ⟨i, hi, rfl⟩ := rng_in c1 c2 (by omega)
      obtain ⟨fs, hfi⟩ := hg i hi
      obtain ⟨⟨mo_, hl0_⟩, -⟩ := id hL
      refine hm_callV (rest := []) (k := 3) q2_229 q2_230 q1_4 q2_232 q2_231 rfl nm_Jx4a65c_get_915e3 rfl hx hb hml hown hts hK hO hS hH hl.1 hl0_ (c_get Γ l lg ar cap n L i f hL hi hc) ⟨Nat.le_of_ble_eq_true rfl, Nat.le_of_ble_eq_true rfl⟩ ⟨Nat.le_of_ble_eq_true rfl, Nat.le_of_ble_eq_true rfl⟩ rfl (Nat.le_of_ble_eq_true rfl) dX7_findGame_31 (fun v_ f_ H locs hp_ hH hS => ?_)
      obtain ⟨rfl, ef_⟩ := hp_
      rw [ef_] at hH
      clear ef_
      refine W.eq (g2 := F0 m 34 ls [.ref (L i)]) rfl ?_
      refine hm_castR hx hb hts hown q3_5 hK hH hfi rfl dX7_findGame_34 ?_
      exact vx_ret (hm_aret hx hb hr (Or.inl ⟨_, rfl⟩) (Or.inr ⟨_, rfl⟩) hlocks hS hH (⟨i, hi, rfl, rfl, rfl⟩) (Nat.le_of_ble_eq_true rfl) (Nat.le_of_ble_eq_true rfl) dX7_findGame_37)
    · exact hm_thrW hx hb hst hml hl.1 hown q2_216 q1_18 (text := "there is no such game") (by decide) xA_IO (by decide +kernel) hts hK hO hS hH dX7_findGame_15 dX7_findGame_18 dX7_findGame_19 dX7_findGame_22 dX7_findGame_25 hout hlocks (⟨rfl, rng_hi c2 (by omega), rfl⟩) (Nat.le_of_ble_eq_true rfl) (Nat.le_of_ble_eq_true rfl) (Nat.le_of_ble_eq_true rfl) (Nat.le_of_ble_eq_true rfl) (Nat.le_of_ble_eq_true rfl) (Nat.le_of_ble_eq_true rfl)
set_option maxHeartbeats 4000000 in
set_option maxRecDepth 100000 in
theorem c_findTrace (Γ : Gm) (l : Launch) (x0 lp lg lt ca tr pl : Nat) (lim : Int32) (rf so sp sh sm : Int64) (ar cap n : Nat) (L : Nat → Nat) (v : Int32) (f : Hm) (hst : l.stackTraces = false) (hx0 : f x0 = some (eR 7 [.ref lp, .ref lg, .ref lt, .ref ca, .ref tr, .ref pl, .int lim, .long rf, .long so, .long sp, .long sh, .long sm])) (hL : LI Γ f lt ar cap n L) (hn : n ≤ 60) (hc : cap < 2 ^ 31) (hg : ∀ i, i < n → ∃ fs, f (L i) = some (eR 6 fs)) : Cx Γ l yX7_findTrace cX7_findTrace 2 (some (.object "TileWarden$Trace")) 4 1 6 [.ref x0, .int v] f (fun r f' => ∃ i, i < n ∧ v = nI i ∧ r = some (.ref (L i)) ∧ f' = f) (fun E f' => E = "java/lang/IndexOutOfBoundsException" ∧ (∀ i, i < n → v ≠ nI i) ∧ f' = f) := by
  refine Cx_of (by decide +kernel) (Nat.le_of_ble_eq_true rfl) ?_
  intro p e s m args below meth c hx hb hr hml hown hin hlocks hout hts hH hO hK ls hl
  have hl0 := hl
  have hl : lv_has ls 2 [(0, .ref x0), (1, .int v)] := hl
  have hS : va_S (gA Γ) s.heap s.heap [] := va_S.rf
  obtain ⟨⟨moL, hlL⟩, -⟩ := id hL
  refine lv_iload_n hx hb dX7_findTrace_0 rfl (lv_at hl 1 rfl) ?_
  refine lv_if_lt (tgt := 15) hx hb dX7_findTrace_1 (by decide) (fun c1 => ?_) (fun c1 => ?_)
  · exact hm_thrW hx hb hst hml hl.1 hown q2_216 q1_18 (text := "there is no such trace") (by decide) xA_IO (by decide +kernel) hts hK hO hS hH dX7_findTrace_15 dX7_findTrace_18 dX7_findTrace_19 dX7_findTrace_22 dX7_findTrace_25 hout hlocks (⟨rfl, rng_lo c1 (by omega), rfl⟩) (Nat.le_of_ble_eq_true rfl) (Nat.le_of_ble_eq_true rfl) (Nat.le_of_ble_eq_true rfl) (Nat.le_of_ble_eq_true rfl) (Nat.le_of_ble_eq_true rfl) (Nat.le_of_ble_eq_true rfl)
  · refine lv_iload_n hx hb dX7_findTrace_4 rfl (lv_at hl 1 rfl) ?_
    refine lv_aload_n hx hb dX7_findTrace_5 rfl (lv_at hl 0 rfl) ?_
    refine gf_X7_19 hx hb hts hown hK hH hx0 rfl dX7_findTrace_6 ?_
    refine hm_callV (rest := [.int v]) (k := 1) q1_210 q1_211 q1_4 q1_213 q1_212 rfl nm_Jx4a65c_size_8abf5 rfl hx hb hml hown hts hK hO hS hH hl.1 hlL (c_size Γ l lt ar cap n L f hL) ⟨Nat.le_of_ble_eq_true rfl, Nat.le_of_ble_eq_true rfl⟩ ⟨Nat.le_of_ble_eq_true rfl, Nat.le_of_ble_eq_true rfl⟩ rfl (Nat.le_of_ble_eq_true rfl) dX7_findTrace_9 (fun v_ f_ H locs hp_ hH hS => ?_)
    obtain ⟨rfl, ef_⟩ := hp_
    rw [ef_] at hH
    clear ef_
    refine W.eq (g2 := F0 m 12 ls [.int (nI n), .int v]) rfl ?_
    refine lv_icmp_lt (tgt := 26) hx hb dX7_findTrace_12 (by decide) (fun c2 => ?_) (fun c2 => ?_)
    · refine lv_aload_n hx hb dX7_findTrace_26 rfl (lv_at hl 0 rfl) ?_
      refine gf_X7_19 hx hb hts hown hK hH hx0 rfl dX7_findTrace_27 ?_
      refine lv_iload_n hx hb dX7_findTrace_30 rfl (lv_at hl 1 rfl) ?_
      obtain ⟨i, hi, rfl⟩ := rng_in c1 c2 (by omega)
      obtain ⟨fs, hfi⟩ := hg i hi
      obtain ⟨⟨mo_, hl0_⟩, -⟩ := id hL
      refine hm_callV (rest := []) (k := 3) q2_229 q2_230 q1_4 q2_232 q2_231 rfl nm_Jx4a65c_get_915e3 rfl hx hb hml hown hts hK hO hS hH hl.1 hl0_ (c_get Γ l lt ar cap n L i f hL hi hc) ⟨Nat.le_of_ble_eq_true rfl, Nat.le_of_ble_eq_true rfl⟩ ⟨Nat.le_of_ble_eq_true rfl, Nat.le_of_ble_eq_true rfl⟩ rfl (Nat.le_of_ble_eq_true rfl) dX7_findTrace_31 (fun v_ f_ H locs hp_ hH hS => ?_)
      obtain ⟨rfl, ef_⟩ := hp_
      rw [ef_] at hH
      clear ef_
      refine W.eq (g2 := F0 m 34 ls [.ref (L i)]) rfl ?_
      refine hm_castR hx hb hts hown q3_130 hK hH hfi rfl dX7_findTrace_34 ?_
      exact vx_ret (hm_aret hx hb hr (Or.inl ⟨_, rfl⟩) (Or.inr ⟨_, rfl⟩) hlocks hS hH (⟨i, hi, rfl, rfl, rfl⟩) (Nat.le_of_ble_eq_true rfl) (Nat.le_of_ble_eq_true rfl) dX7_findTrace_37)
    · exact hm_thrW hx hb hst hml hl.1 hown q2_216 q1_18 (text := "there is no such trace") (by decide) xA_IO (by decide +kernel) hts hK hO hS hH dX7_findTrace_15 dX7_findTrace_18 dX7_findTrace_19 dX7_findTrace_22 dX7_findTrace_25 hout hlocks (⟨rfl, rng_hi c2 (by omega), rfl⟩) (Nat.le_of_ble_eq_true rfl) (Nat.le_of_ble_eq_true rfl) (Nat.le_of_ble_eq_true rfl) (Nat.le_of_ble_eq_true rfl) (Nat.le_of_ble_eq_true rfl) (Nat.le_of_ble_eq_true rfl)
