/-! the floats: hitShare, meanPrice -/
theorem nan32 {r : UInt32} (h : FP.Core.val32 r ≠ .nan) : vf_n32 r := by
  have hd : ¬ (r.toNat / 8388608 % 256 = 255 ∧ r.toNat % 8388608 ≠ 0) := by
    rintro ⟨h1, h2⟩
    apply h
    show FP.Core.decode FP.Core.b32 r.toNat = .nan
    unfold FP.Core.decode
    rw [if_pos (show FP.Core.fieldE FP.Core.b32 r.toNat = FP.Core.b32.exps - 1 from h1), if_neg (show ¬ FP.Core.fieldT FP.Core.b32 r.toNat = 0 from h2)]
  have hn := r.toNat_lt
  unfold vf_n32
  rw [UInt32.le_iff_toNat_le, UInt32.toNat_and]
  show r.toNat &&& 2147483647 ≤ 2139095040
  rw [show 2147483647 = 2 ^ 31 - 1 from rfl, Nat.and_two_pow_sub_one_eq_mod]
  omega
theorem nan64 {r : UInt64} (h : FP.Core.val64 r ≠ .nan) : vf_n64 r := by
  have hd : ¬ (r.toNat / 4503599627370496 % 2048 = 2047 ∧ r.toNat % 4503599627370496 ≠ 0) := by
    rintro ⟨h1, h2⟩
    apply h
    show FP.Core.decode FP.Core.b64 r.toNat = .nan
    unfold FP.Core.decode
    rw [if_pos (show FP.Core.fieldE FP.Core.b64 r.toNat = FP.Core.b64.exps - 1 from h1), if_neg (show ¬ FP.Core.fieldT FP.Core.b64 r.toNat = 0 from h2)]
  have hn := r.toNat_lt
  unfold vf_n64
  rw [UInt64.le_iff_toNat_le, UInt64.toNat_and]
  show r.toNat &&& 9223372036854775807 ≤ 9218868437227405312
  rw [show 9223372036854775807 = 2 ^ 63 - 1 from rfl, Nat.and_two_pow_sub_one_eq_mod]
  omega
theorem rr_nn (f : FP.Core.Fmt) (s : Bool) (n d : Nat) (e : Int) : FP.Core.roundRatio f s n d e ≠ .nan := by
  unfold FP.Core.roundRatio FP.Core.roundAt FP.Core.settle FP.Core.bound
  split
  · intro h; cases h
  · split <;> split <;> (intro h; cases h)
theorem whole_c {i : Int} (hi : i ≠ 0) {d : FP.Core.Datum} (h : FP.Core.Whole i d) : ∃ s c q, d = .fin s c q ∧ c ≠ 0 := by
  cases d with
  | nan => exact h.elim
  | inf s => exact h.elim
  | fin s c q =>
    refine ⟨s, c, q, rfl, fun z => hi ?_⟩
    subst z
    have h' : FP.Core.signed s (0 * 2 ^ q.toNat) = i * ((2 ^ (-q).toNat : Nat) : Int) := h
    have h0 : FP.Core.signed s (0 * 2 ^ q.toNat) = 0 := by rw [Nat.zero_mul]; cases s <;> rfl
    rw [h0] at h'
    have hp := Nat.two_pow_pos (-q).toNat
    rcases Int.mul_eq_zero.mp h'.symm with z | z
    · exact z
    · omega
theorem quo_nn {f : FP.Core.Fmt} {d : FP.Core.Datum} {s : Bool} {c : Nat} {q : Int} (hd : d ≠ .nan) (hc : c ≠ 0) : FP.Core.quotient f d (.fin s c q) ≠ .nan := by
  cases d with
  | nan => exact absurd rfl hd
  | inf t => intro h; cases h
  | fin t c' q' =>
    show (if c = 0 then _ else _) ≠ _
    rw [if_neg hc]
    exact rr_nn _ _ _ _ _
theorem fl_all {n : Nat} (h0 : 0 < n) (h1 : n ≤ 2 ^ 24) (x : UInt32) (hx : FP.Core.val32 x ≠ .nan) : FP.Core.val32 (FP.fdiv x (FP.i2f (nI n))) ≠ .nan := by
  show FP.Core.val32 (FP.Core.fdiv x (FP.Core.i2f (nI n))) ≠ .nan
  rw [FP.Core.val32_fdiv, FP.Core.val32_i2f, nI_toInt (by omega)]
  obtain ⟨s, c, q, e, hc⟩ := whole_c (i := (n : Int)) (by omega) (FP.Core.whole_round FP.Core.good_b32 FP.Core.wide_b32 (by show n ≤ 2 ^ 24; exact h1) (FP.Core.whole_ofInt (n : Int)))
  rw [e]
  exact quo_nn hx hc
theorem fl_num (v : Int32) : FP.Core.val32 (FP.i2f v) ≠ .nan := by
  show FP.Core.val32 (FP.Core.i2f v) ≠ .nan
  rw [FP.Core.val32_i2f]
  exact rr_nn _ _ _ _ _
theorem fl_lf {a : Nat} (h : a < 2 ^ 31) : FP.l2f (lN a) = FP.i2f (nI a) := by
  show FP.Core.l2f (lN a) = FP.Core.i2f (nI a)
  unfold FP.Core.l2f FP.Core.i2f
  rw [pk_lT (by omega), nI_toInt h]
theorem dl_ld {a : Nat} (h : a < 2 ^ 31) : FP.l2d (lN a) = FP.i2d (nI a) := by
  show FP.Core.l2d (lN a) = FP.Core.i2d (nI a)
  unfold FP.Core.l2d FP.Core.i2d
  rw [pk_lT (by omega), nI_toInt h]
theorem dl_num (v : Int64) : FP.Core.val64 (FP.l2d v) ≠ .nan := by
  show FP.Core.val64 (FP.Core.l2d v) ≠ .nan
  rw [FP.Core.val64_l2d]
  exact rr_nn _ _ _ _ _
theorem dl_all {n : Nat} (h0 : 0 < n) (h1 : n ≤ 2 ^ 24) (x : UInt64) (hx : FP.Core.val64 x ≠ .nan) : FP.Core.val64 (FP.ddiv x (FP.i2d (nI n))) ≠ .nan := by
  show FP.Core.val64 (FP.Core.ddiv x (FP.Core.i2d (nI n))) ≠ .nan
  rw [FP.Core.val64_ddiv, FP.Core.val64_i2d, nI_toInt (by omega)]
  obtain ⟨s, c, q, e, hc⟩ := whole_c (i := (n : Int)) (by omega) (FP.Core.whole_round FP.Core.good_b64 FP.Core.wide_b64 (by show n ≤ 2 ^ 53; omega) (FP.Core.whole_ofInt (n : Int)))
  rw [e]
  exact quo_nn hx hc
theorem fd_nn {x : UInt32} (hx : FP.Core.val32 x ≠ .nan) : FP.Core.val64 (FP.f2d x) ≠ .nan := by
  unfold FP.f2d
  rw [if_neg (fun z => hx ((FP.Core.fIsNaN_iff x).mp z)), FP.Core.val64_f2d]
  cases h : FP.Core.val32 x with
  | nan => exact absurd h hx
  | inf s => intro z; cases z
  | fin s c q => exact rr_nn _ _ _ _ _
section FR
variable {p : Program} {l : Launch} {e : Env} {R : Room} {s : State} {m : MethodId} {args : Array Value} {below : List Frame} {meth : Method} {c : Code} {H : Heap} {locs : List Loc} {cells slots : Nat} {cc : ByteArray} {pc : Nat} {ls : Array Slot} {Γ : Gm} {f : Hm}
theorem hm_fret {mc ms : Nat} {Post : Option Value → Hm → Prop} {v : UInt32} (hx : p.tables.exec = Jvm.exec) (hb : c.code = cc) (hr : meth.sig.returnType = some .float) (hlocks : meth.locks = false) (hS : va_S (gA Γ) s.heap H locs) (hH : hm_H Γ f H) (hp : Post (some (.float v)) f) (hc : cells ≤ mc) (hs : slots ≤ ms) (hdg : decode cc pc = .ok (.freturn, 1)) :
    W p l e R s m args below meth c H locs cells slots (MQ below (hm_Q Γ Post) args s mc ms (gA Γ)) (F0 m pc ls [.float v]) :=
  W.widen hc hs (W.fret hx hb hr (fun t ht hW => ⟨⟨_, f, rfl, hp, by rw [ht]; exact hH⟩, hS.F ht⟩) hS.2.2 hdg hlocks)
theorem hm_dret {mc ms : Nat} {Post : Option Value → Hm → Prop} {v : UInt64} (hx : p.tables.exec = Jvm.exec) (hb : c.code = cc) (hr : meth.sig.returnType = some .double) (hlocks : meth.locks = false) (hS : va_S (gA Γ) s.heap H locs) (hH : hm_H Γ f H) (hp : Post (some (.double v)) f) (hc : cells ≤ mc) (hs : slots ≤ ms) (hdg : decode cc pc = .ok (.dreturn, 1)) :
    W p l e R s m args below meth c H locs cells slots (MQ below (hm_Q Γ Post) args s mc ms (gA Γ)) (F0 m pc ls [.double v]) :=
  W.widen hc hs (W.dret hx hb hr (fun t ht hW => ⟨⟨_, f, rfl, hp, by rw [ht]; exact hH⟩, hS.F ht⟩) hS.2.2 hdg hlocks)
end FR
theorem nI_add0 {a : Nat} (h : a < 2 ^ 31) : nI a = 0 ↔ a = 0 := m_z h
theorem lN_eq0 {a : Nat} (h : a < 2 ^ 63) : lN a = 0 ↔ a = 0 := by
  constructor
  · intro q
    have := congrArg Int64.toInt q
    rw [pk_lT h] at this
    exact Int.ofNat_eq_zero.mp this
  · rintro rfl; rfl
set_option maxHeartbeats 4000000 in
set_option maxRecDepth 100000 in
theorem w_X8_hitShare (Γ : Gm) (l : Launch) (m0 : Nat) (r : Nat → Nat) (th : Int32) (K : Nat → EV) (kp : Nat) (ck msh msm mso : Int32) (np : Nat) (mon : Nat → Int32) (ng : Nat) (gs : Nat → GS) (nt : Nat) (ts : Nat → TR) (lim : Int32) (rf sp : Int64) (rr : Nat) (a b : Nat) (f : Hm) (hM : MW Γ f m0 r th K kp ck msh msm mso np mon ng gs nt ts lim rf sp rr) (hnp : np ≤ 4) (hng : ng ≤ 8) (hnt : nt ≤ 60) (hr1 : 1 ≤ rr) (hrr : rr ≤ 64) (hkr : kp ≤ rr) (hrI : rI r) (hgs : GOK np ng gs) (hsh : msh = nI a) (hsm : msm = nI b) (hab : a + b < 2 ^ 24) : Ct Γ l yX8_hitShare cX8_hitShare 2 (some .float) 2 0 0 [.ref m0] f (fun v f' => (((if decide (a + b = 0) then 1 else 0 : Int32) = 0 ∧ v = some (.float (FP.fdiv (FP.i2f msh) (FP.i2f (nI (a + b))))) ∧ MW Γ f' m0 r 0 K kp ck msh msm mso np mon ng gs nt ts lim rf sp rr) ∨ ((if decide (a + b = 0) then 1 else 0 : Int32) ≠ 0 ∧ (∃ x, v = some (.float x)) ∧ MW Γ f' m0 r ((if decide (a + b = 0) then 1 else 0)) K kp ck msh msm mso np mon ng gs nt ts lim rf sp rr)) ∧ hm_k (mS m0 r) f f') := by
  refine Ct_of (by decide +kernel) (Nat.le_of_ble_eq_true rfl) ?_
  intro p e s m args below meth c hx hb hr hml hown hin hlocks hts hH hO hK ls hl
  have hl : lv_has ls 2 [(0, .ref m0)] := hl
  have hS : va_S (gA Γ) s.heap s.heap [] := va_S.rf
  obtain ⟨⟨dz, gd, hih, mih, fh, hm0⟩, hR⟩ := id hM
  obtain ⟨⟨hk0, hk1, hk2, hk3, hk4, hk5, hk6⟩, ⟨pb, pz, pd, pn, pe, ph, pg, hp0, hp1, hp2, hp3, hp4, hp5, hp6⟩, h0, ⟨hg1, hg2, hg3, hg4, hg5, hg6, hg7, hg8, hg9⟩, ht10, ht11, ht12, ht13⟩ := id hR
  refine lv_aload_n hx hb dX8_hitShare_0 rfl (lv_at hl 0 rfl) ?_
  refine gf_X8_218 hx hb hts hown hK hH hm0 rfl dX8_hitShare_1 ?_
  refine lv_aload_n hx hb dX8_hitShare_4 rfl (lv_at hl 0 rfl) ?_
  refine gf_X8_221 hx hb hts hown hK hH hm0 rfl dX8_hitShare_5 ?_
  refine lv_iadd hx hb dX8_hitShare_8 ?_
  refine lv_topi (fun v1 ev1 => ?_)
  replace ev1 : v1 = nI (a + b) := ev1.trans (by rw [hsh, hsm]; exact nI_add _ _)
  subst ev1
  refine lv_istore_n (lv' := [(1, .int (nI (a + b))), (0, .ref m0)]) hx hb dX8_hitShare_9 rfl hl (by decide) rfl (fun ls hl => ?_)
  refine lv_iload_n hx hb dX8_hitShare_10 rfl (lv_at hl 0 rfl) ?_
  refine lv_if_ne (tgt := 21) hx hb dX8_hitShare_11 (by decide) (fun c2 => ?_) (fun c2 => ?_)
  · refine lv_aload_n hx hb dX8_hitShare_21 rfl (lv_at hl 1 rfl) ?_
    refine lv_iconst (v := 0) hx hb dX8_hitShare_22 (by decide) ?_
    refine pf_X8_103 hx hb hts hown hK hO hS hH hm0 rfl (Nat.le_of_ble_eq_true rfl) rfl dX8_hitShare_23 (fun H locs hH hS => ?_)
    obtain ⟨f3, ef3⟩ : ∃ zz_, zz_ = hm_up f m0 (eM r 0 (nI np) (nI ng) (nI nt) (nI kp) (nI rr) ck lim dz gd hih mih fh msh msm mso sp rf) := ⟨_, rfl⟩
    have hH : hm_H Γ f3 H := by rw [ef3]; exact hH
    have h4 : f3 m0 = some (eM r 0 (nI np) (nI ng) (nI nt) (nI kp) (nI rr) ck lim dz gd hih mih fh msh msm mso sp rf) := by rw [ef3]; exact hm_us
    have h5 : f3 ((r 0)) = some (eI Γ 4 mon) := by rw [ef3]; exact (hm_un (hm_ne h0 hm0 (fun q => by cases q))).trans h0
    have h6 : f3 ((r 1)) = some (eJ Γ 8 (fun i => b4 (gs i).2.1)) := by rw [ef3]; exact (hm_un (hm_ne hg1 hm0 (fun q => by cases q))).trans hg1
    have h7 : f3 ((r 2)) = some (eI Γ 8 (fun i => nI (gs i).2.2.1)) := by rw [ef3]; exact (hm_un (hm_ne hg2 hm0 (fun q => by cases q))).trans hg2
    have h8 : f3 ((r 3)) = some (eI Γ 8 (fun i => nI (gs i).1)) := by rw [ef3]; exact (hm_un (hm_ne hg3 hm0 (fun q => by cases q))).trans hg3
    have h9 : f3 ((r 4)) = some (eI Γ 8 (fun i => (gs i).2.2.2.1)) := by rw [ef3]; exact (hm_un (hm_ne hg4 hm0 (fun q => by cases q))).trans hg4
    have h10 : f3 ((r 5)) = some (eI Γ 8 (fun i => (gs i).2.2.2.2.1)) := by rw [ef3]; exact (hm_un (hm_ne hg5 hm0 (fun q => by cases q))).trans hg5
    have h11 : f3 ((r 6)) = some (eI Γ 8 (fun i => (gs i).2.2.2.2.2.1)) := by rw [ef3]; exact (hm_un (hm_ne hg6 hm0 (fun q => by cases q))).trans hg6
    have h12 : f3 ((r 7)) = some (eI Γ 8 (fun i => (gs i).2.2.2.2.2.2.1)) := by rw [ef3]; exact (hm_un (hm_ne hg7 hm0 (fun q => by cases q))).trans hg7
    have h13 : f3 ((r 8)) = some (eI Γ 8 (fun i => (gs i).2.2.2.2.2.2.2.1)) := by rw [ef3]; exact (hm_un (hm_ne hg8 hm0 (fun q => by cases q))).trans hg8
    have h14 : f3 ((r 9)) = some (eZ Γ 8 (fun i => bI (gs i).2.2.2.2.2.2.2.2)) := by rw [ef3]; exact (hm_un (hm_ne hg9 hm0 (fun q => by cases q))).trans hg9
    have h15 : f3 ((r 10)) = some (eJ Γ 60 (fun i => b4 (ts i).2.1)) := by rw [ef3]; exact (hm_un (hm_ne ht10 hm0 (fun q => by cases q))).trans ht10
    have h16 : f3 ((r 11)) = some (eI Γ 60 (fun i => nI (ts i).2.2.1)) := by rw [ef3]; exact (hm_un (hm_ne ht11 hm0 (fun q => by cases q))).trans ht11
    have h17 : f3 ((r 12)) = some (eI Γ 60 (fun i => nI (ts i).1)) := by rw [ef3]; exact (hm_un (hm_ne ht12 hm0 (fun q => by cases q))).trans ht12
    have h18 : f3 ((r 13)) = some (eI Γ 60 (fun i => (ts i).2.2.2)) := by rw [ef3]; exact (hm_un (hm_ne ht13 hm0 (fun q => by cases q))).trans ht13
    have h19 : f3 ((r 14)) = some (eJ Γ 64 (fun j => (K j).1)) := by rw [ef3]; exact (hm_un (hm_ne hk0 hm0 (fun q => by cases q))).trans hk0
    have h20 : f3 ((r 15)) = some (eI Γ 64 (fun j => (K j).2.1)) := by rw [ef3]; exact (hm_un (hm_ne hk1 hm0 (fun q => by cases q))).trans hk1
    have h21 : f3 ((r 16)) = some (eI Γ 64 (fun j => (K j).2.2.1)) := by rw [ef3]; exact (hm_un (hm_ne hk2 hm0 (fun q => by cases q))).trans hk2
    have h22 : f3 ((r 17)) = some (eI Γ 64 (fun j => (K j).2.2.2.1)) := by rw [ef3]; exact (hm_un (hm_ne hk3 hm0 (fun q => by cases q))).trans hk3
    have h23 : f3 ((r 18)) = some (eI Γ 64 (fun j => (K j).2.2.2.2.1)) := by rw [ef3]; exact (hm_un (hm_ne hk4 hm0 (fun q => by cases q))).trans hk4
    have h24 : f3 ((r 19)) = some (eI Γ 64 (fun j => (K j).2.2.2.2.2.1)) := by rw [ef3]; exact (hm_un (hm_ne hk5 hm0 (fun q => by cases q))).trans hk5
    have h25 : f3 ((r 20)) = some (eI Γ 64 (fun j => (K j).2.2.2.2.2.2)) := by rw [ef3]; exact (hm_un (hm_ne hk6 hm0 (fun q => by cases q))).trans hk6
    have h26 : f3 ((r 21)) = some (eJ Γ 6 pb) := by rw [ef3]; exact (hm_un (hm_ne hp0 hm0 (fun q => by cases q))).trans hp0
    have h27 : f3 ((r 22)) = some (eI Γ 6 pz) := by rw [ef3]; exact (hm_un (hm_ne hp1 hm0 (fun q => by cases q))).trans hp1
    have h28 : f3 ((r 23)) = some (eI Γ 6 pd) := by rw [ef3]; exact (hm_un (hm_ne hp2 hm0 (fun q => by cases q))).trans hp2
    have h29 : f3 ((r 24)) = some (eI Γ 6 pn) := by rw [ef3]; exact (hm_un (hm_ne hp3 hm0 (fun q => by cases q))).trans hp3
    have h30 : f3 ((r 25)) = some (eI Γ 6 pe) := by rw [ef3]; exact (hm_un (hm_ne hp4 hm0 (fun q => by cases q))).trans hp4
    have h31 : f3 ((r 26)) = some (eI Γ 6 ph) := by rw [ef3]; exact (hm_un (hm_ne hp5 hm0 (fun q => by cases q))).trans hp5
    have h32 : f3 ((r 27)) = some (eI Γ 6 pg) := by rw [ef3]; exact (hm_un (hm_ne hp6 hm0 (fun q => by cases q))).trans hp6
    refine lv_aload_n hx hb dX8_hitShare_26 rfl (lv_at hl 1 rfl) ?_
    refine gf_X8_218 hx hb hts hown hK hH h4 rfl dX8_hitShare_27 ?_
    refine lv_i2f hx hb dX8_hitShare_30 ?_
    refine lv_iload_n hx hb dX8_hitShare_31 rfl (lv_at hl 0 rfl) ?_
    refine lv_i2f hx hb dX8_hitShare_32 ?_
    refine lv_fdiv hx hb dX8_hitShare_33 (nan32 (fl_all (by have h_ : ¬ a + b = 0 := fun z => c2 ((m_z (by omega)).mpr z); omega) (by omega) _ (fl_num _))) ?_
    have hfr9 : hm_fr (mS m0 r) f f3 := by
      rw [ef3]
      exact (hm_fr.rf (S := mS m0 r)).up mS_0
    exact hm_fret hx hb hr hlocks hS hH (⟨Or.inl ⟨by rw [decide_eq_false (fun z => c2 ((m_z (by omega)).mpr z))]; rfl, rfl, MW.mk h4 ⟨⟨h19, h20, h21, h22, h23, h24, h25⟩, ⟨_, _, _, _, _, _, _, h26, h27, h28, h29, h30, h31, h32⟩, h5, ⟨h6, h7, h8, h9, h10, h11, h12, h13, h14⟩, h15, h16, h17, h18⟩⟩, hfr9.k⟩) (Nat.le_of_ble_eq_true rfl) (Nat.le_of_ble_eq_true rfl) dX8_hitShare_34
  · refine lv_aload_n hx hb dX8_hitShare_14 rfl (lv_at hl 1 rfl) ?_
    refine lv_iconst (v := 1) hx hb dX8_hitShare_15 (by decide) ?_
    refine hm_callV (rest := []) (k := 1) q6_85 q6_87 q1_9 q6_88 q0_36 rfl nm_X8_refuse rfl hx hb hml hown hts hK hO hS hH hl.1 hm0 (c_X8_refuse Γ l m0 r th (nI np) (nI ng) (nI nt) (nI kp) (nI rr) ck lim dz gd hih mih fh msh msm mso sp rf 1 f hm0) ⟨Nat.le_of_ble_eq_true rfl, Nat.le_of_ble_eq_true rfl⟩ ⟨Nat.le_of_ble_eq_true rfl, Nat.le_of_ble_eq_true rfl⟩ rfl (Nat.le_of_ble_eq_true rfl) dX8_hitShare_16 (fun v_ fn33 H locs hp_ hH hS => ?_)
    obtain ⟨rfl, efn33⟩ := hp_
    refine W.eq (g2 := F0 m 19 ls [.int 0]) rfl ?_
    have hm1_ : fn33 m0 = some (eM r 1 (nI np) (nI ng) (nI nt) (nI kp) (nI rr) ck lim dz gd hih mih fh msh msm mso sp rf) := by rw [efn33]; exact hm_us
    have h34 : fn33 ((r 0)) = some (eI Γ 4 mon) := by rw [efn33]; exact (hm_un (hm_ne h0 hm0 (fun q => by cases q))).trans h0
    have h35 : fn33 ((r 1)) = some (eJ Γ 8 (fun i => b4 (gs i).2.1)) := by rw [efn33]; exact (hm_un (hm_ne hg1 hm0 (fun q => by cases q))).trans hg1
    have h36 : fn33 ((r 2)) = some (eI Γ 8 (fun i => nI (gs i).2.2.1)) := by rw [efn33]; exact (hm_un (hm_ne hg2 hm0 (fun q => by cases q))).trans hg2
    have h37 : fn33 ((r 3)) = some (eI Γ 8 (fun i => nI (gs i).1)) := by rw [efn33]; exact (hm_un (hm_ne hg3 hm0 (fun q => by cases q))).trans hg3
    have h38 : fn33 ((r 4)) = some (eI Γ 8 (fun i => (gs i).2.2.2.1)) := by rw [efn33]; exact (hm_un (hm_ne hg4 hm0 (fun q => by cases q))).trans hg4
    have h39 : fn33 ((r 5)) = some (eI Γ 8 (fun i => (gs i).2.2.2.2.1)) := by rw [efn33]; exact (hm_un (hm_ne hg5 hm0 (fun q => by cases q))).trans hg5
    have h40 : fn33 ((r 6)) = some (eI Γ 8 (fun i => (gs i).2.2.2.2.2.1)) := by rw [efn33]; exact (hm_un (hm_ne hg6 hm0 (fun q => by cases q))).trans hg6
    have h41 : fn33 ((r 7)) = some (eI Γ 8 (fun i => (gs i).2.2.2.2.2.2.1)) := by rw [efn33]; exact (hm_un (hm_ne hg7 hm0 (fun q => by cases q))).trans hg7
    have h42 : fn33 ((r 8)) = some (eI Γ 8 (fun i => (gs i).2.2.2.2.2.2.2.1)) := by rw [efn33]; exact (hm_un (hm_ne hg8 hm0 (fun q => by cases q))).trans hg8
    have h43 : fn33 ((r 9)) = some (eZ Γ 8 (fun i => bI (gs i).2.2.2.2.2.2.2.2)) := by rw [efn33]; exact (hm_un (hm_ne hg9 hm0 (fun q => by cases q))).trans hg9
    have h44 : fn33 ((r 10)) = some (eJ Γ 60 (fun i => b4 (ts i).2.1)) := by rw [efn33]; exact (hm_un (hm_ne ht10 hm0 (fun q => by cases q))).trans ht10
    have h45 : fn33 ((r 11)) = some (eI Γ 60 (fun i => nI (ts i).2.2.1)) := by rw [efn33]; exact (hm_un (hm_ne ht11 hm0 (fun q => by cases q))).trans ht11
    have h46 : fn33 ((r 12)) = some (eI Γ 60 (fun i => nI (ts i).1)) := by rw [efn33]; exact (hm_un (hm_ne ht12 hm0 (fun q => by cases q))).trans ht12
    have h47 : fn33 ((r 13)) = some (eI Γ 60 (fun i => (ts i).2.2.2)) := by rw [efn33]; exact (hm_un (hm_ne ht13 hm0 (fun q => by cases q))).trans ht13
    have h48 : fn33 ((r 14)) = some (eJ Γ 64 (fun j => (K j).1)) := by rw [efn33]; exact (hm_un (hm_ne hk0 hm0 (fun q => by cases q))).trans hk0
    have h49 : fn33 ((r 15)) = some (eI Γ 64 (fun j => (K j).2.1)) := by rw [efn33]; exact (hm_un (hm_ne hk1 hm0 (fun q => by cases q))).trans hk1
    have h50 : fn33 ((r 16)) = some (eI Γ 64 (fun j => (K j).2.2.1)) := by rw [efn33]; exact (hm_un (hm_ne hk2 hm0 (fun q => by cases q))).trans hk2
    have h51 : fn33 ((r 17)) = some (eI Γ 64 (fun j => (K j).2.2.2.1)) := by rw [efn33]; exact (hm_un (hm_ne hk3 hm0 (fun q => by cases q))).trans hk3
    have h52 : fn33 ((r 18)) = some (eI Γ 64 (fun j => (K j).2.2.2.2.1)) := by rw [efn33]; exact (hm_un (hm_ne hk4 hm0 (fun q => by cases q))).trans hk4
    have h53 : fn33 ((r 19)) = some (eI Γ 64 (fun j => (K j).2.2.2.2.2.1)) := by rw [efn33]; exact (hm_un (hm_ne hk5 hm0 (fun q => by cases q))).trans hk5
    have h54 : fn33 ((r 20)) = some (eI Γ 64 (fun j => (K j).2.2.2.2.2.2)) := by rw [efn33]; exact (hm_un (hm_ne hk6 hm0 (fun q => by cases q))).trans hk6
    have h55 : fn33 ((r 21)) = some (eJ Γ 6 pb) := by rw [efn33]; exact (hm_un (hm_ne hp0 hm0 (fun q => by cases q))).trans hp0
    have h56 : fn33 ((r 22)) = some (eI Γ 6 pz) := by rw [efn33]; exact (hm_un (hm_ne hp1 hm0 (fun q => by cases q))).trans hp1
    have h57 : fn33 ((r 23)) = some (eI Γ 6 pd) := by rw [efn33]; exact (hm_un (hm_ne hp2 hm0 (fun q => by cases q))).trans hp2
    have h58 : fn33 ((r 24)) = some (eI Γ 6 pn) := by rw [efn33]; exact (hm_un (hm_ne hp3 hm0 (fun q => by cases q))).trans hp3
    have h59 : fn33 ((r 25)) = some (eI Γ 6 pe) := by rw [efn33]; exact (hm_un (hm_ne hp4 hm0 (fun q => by cases q))).trans hp4
    have h60 : fn33 ((r 26)) = some (eI Γ 6 ph) := by rw [efn33]; exact (hm_un (hm_ne hp5 hm0 (fun q => by cases q))).trans hp5
    have h61 : fn33 ((r 27)) = some (eI Γ 6 pg) := by rw [efn33]; exact (hm_un (hm_ne hp6 hm0 (fun q => by cases q))).trans hp6
    refine lv_i2f hx hb dX8_hitShare_19 ?_
    have hfr9 : hm_fr (mS m0 r) f fn33 := by
      rw [efn33]
      exact (hm_fr.rf (S := mS m0 r)).up mS_0
    exact hm_fret hx hb hr hlocks hS hH (⟨Or.inr ⟨by rw [decide_eq_true ((m_z (by omega)).mp c2)]; exact (show (1 : Int32) ≠ 0 by decide), ⟨_, rfl⟩, by rw [decide_eq_true ((m_z (by omega)).mp c2)]; exact MW.mk hm1_ ⟨⟨h48, h49, h50, h51, h52, h53, h54⟩, ⟨_, _, _, _, _, _, _, h55, h56, h57, h58, h59, h60, h61⟩, h34, ⟨h35, h36, h37, h38, h39, h40, h41, h42, h43⟩, h44, h45, h46, h47⟩⟩, hfr9.k⟩) (Nat.le_of_ble_eq_true rfl) (Nat.le_of_ble_eq_true rfl) dX8_hitShare_20
set_option maxHeartbeats 4000000 in
set_option maxRecDepth 100000 in
theorem w_X8_meanPrice (Γ : Gm) (l : Launch) (m0 : Nat) (r : Nat → Nat) (th : Int32) (K : Nat → EV) (kp : Nat) (ck msh msm mso : Int32) (np : Nat) (mon : Nat → Int32) (ng : Nat) (gs : Nat → GS) (nt : Nat) (ts : Nat → TR) (lim : Int32) (rf sp : Int64) (rr : Nat)  (f : Hm) (hM : MW Γ f m0 r th K kp ck msh msm mso np mon ng gs nt ts lim rf sp rr) (hnp : np ≤ 4) (hng : ng ≤ 8) (hnt : nt ≤ 60) (hr1 : 1 ≤ rr) (hrr : rr ≤ 64) (hkr : kp ≤ rr) (hrI : rI r) (hgs : GOK np ng gs) (hso : mso = nI nt) : Ct Γ l yX8_meanPrice cX8_meanPrice 1 (some .double) 3 0 0 [.ref m0] f (fun v f' => (((if decide (0 < nt) then 0 else 1 : Int32) = 0 ∧ v = some (.double (FP.ddiv (FP.l2d sp) (FP.i2d mso))) ∧ MW Γ f' m0 r 0 K kp ck msh msm mso np mon ng gs nt ts lim rf sp rr) ∨ ((if decide (0 < nt) then 0 else 1 : Int32) ≠ 0 ∧ (∃ x, v = some (.double x)) ∧ MW Γ f' m0 r ((if decide (0 < nt) then 0 else 1)) K kp ck msh msm mso np mon ng gs nt ts lim rf sp rr)) ∧ hm_k (mS m0 r) f f') := by
  refine Ct_of (by decide +kernel) (Nat.le_of_ble_eq_true rfl) ?_
  intro p e s m args below meth c hx hb hr hml hown hin hlocks hts hH hO hK ls hl
  have hl : lv_has ls 1 [(0, .ref m0)] := hl
  have hS : va_S (gA Γ) s.heap s.heap [] := va_S.rf
  obtain ⟨⟨dz, gd, hih, mih, fh, hm0⟩, hR⟩ := id hM
  obtain ⟨⟨hk0, hk1, hk2, hk3, hk4, hk5, hk6⟩, ⟨pb, pz, pd, pn, pe, ph, pg, hp0, hp1, hp2, hp3, hp4, hp5, hp6⟩, h0, ⟨hg1, hg2, hg3, hg4, hg5, hg6, hg7, hg8, hg9⟩, ht10, ht11, ht12, ht13⟩ := id hR
  refine lv_aload_n hx hb dX8_meanPrice_0 rfl (lv_at hl 0 rfl) ?_
  refine lv_aload_n hx hb dX8_meanPrice_1 rfl (lv_at hl 0 rfl) ?_
  refine gf_X8_224 hx hb hts hown hK hH hm0 rfl dX8_meanPrice_2 ?_
  refine lv_if_le (tgt := 12) hx hb dX8_meanPrice_5 (by decide) (fun c1 => ?_) (fun c1 => ?_)
  · refine lv_iconst (v := 0) hx hb dX8_meanPrice_12 (by decide) ?_
    refine lv_iconst (v := 1) hx hb dX8_meanPrice_13 (by decide) ?_
    have hb2 : (decide (0 < nt)) = false := decide_eq_false (fun q => absurd c1 (by rw [hso]; exact Int32.not_le.mpr (nI_lt (a := 0) q (by omega))))
    refine W.eq (g2 := F0 m 14 ls [.int 1, .int (bI (decide (0 < nt))), .ref m0]) (by rw [hb2]; rfl) ?_
    refine hm_callV (rest := []) (k := 1) q5_119 q5_121 q1_9 q5_122 q0_17 rfl nm_X8_no rfl hx hb hml hown hts hK hO hS hH hl.1 hm0 (c_X8_no Γ l m0 r th (nI np) (nI ng) (nI nt) (nI kp) (nI rr) ck lim dz gd hih mih fh msh msm mso sp rf (decide (0 < nt)) 1 f hm0) ⟨Nat.le_of_ble_eq_true rfl, Nat.le_of_ble_eq_true rfl⟩ ⟨Nat.le_of_ble_eq_true rfl, Nat.le_of_ble_eq_true rfl⟩ rfl (Nat.le_of_ble_eq_true rfl) dX8_meanPrice_14 (fun v_ fn3 H locs hp_ hH hS => ?_)
    obtain ⟨rfl, efn3⟩ := hp_
    rw [hb2] at efn3
    refine W.eq (g2 := F0 m 17 ls [.int 1]) (by rw [hb2]; rfl) ?_
    have hm4 : fn3 m0 = some (eM r 1 (nI np) (nI ng) (nI nt) (nI kp) (nI rr) ck lim dz gd hih mih fh msh msm mso sp rf) := by rw [efn3]; exact hm_us
    have h5 : fn3 ((r 0)) = some (eI Γ 4 mon) := by rw [efn3]; exact (hm_un (hm_ne h0 hm0 (fun q => by cases q))).trans h0
    have h6 : fn3 ((r 1)) = some (eJ Γ 8 (fun i => b4 (gs i).2.1)) := by rw [efn3]; exact (hm_un (hm_ne hg1 hm0 (fun q => by cases q))).trans hg1
    have h7 : fn3 ((r 2)) = some (eI Γ 8 (fun i => nI (gs i).2.2.1)) := by rw [efn3]; exact (hm_un (hm_ne hg2 hm0 (fun q => by cases q))).trans hg2
    have h8 : fn3 ((r 3)) = some (eI Γ 8 (fun i => nI (gs i).1)) := by rw [efn3]; exact (hm_un (hm_ne hg3 hm0 (fun q => by cases q))).trans hg3
    have h9 : fn3 ((r 4)) = some (eI Γ 8 (fun i => (gs i).2.2.2.1)) := by rw [efn3]; exact (hm_un (hm_ne hg4 hm0 (fun q => by cases q))).trans hg4
    have h10 : fn3 ((r 5)) = some (eI Γ 8 (fun i => (gs i).2.2.2.2.1)) := by rw [efn3]; exact (hm_un (hm_ne hg5 hm0 (fun q => by cases q))).trans hg5
    have h11 : fn3 ((r 6)) = some (eI Γ 8 (fun i => (gs i).2.2.2.2.2.1)) := by rw [efn3]; exact (hm_un (hm_ne hg6 hm0 (fun q => by cases q))).trans hg6
    have h12 : fn3 ((r 7)) = some (eI Γ 8 (fun i => (gs i).2.2.2.2.2.2.1)) := by rw [efn3]; exact (hm_un (hm_ne hg7 hm0 (fun q => by cases q))).trans hg7
    have h13 : fn3 ((r 8)) = some (eI Γ 8 (fun i => (gs i).2.2.2.2.2.2.2.1)) := by rw [efn3]; exact (hm_un (hm_ne hg8 hm0 (fun q => by cases q))).trans hg8
    have h14 : fn3 ((r 9)) = some (eZ Γ 8 (fun i => bI (gs i).2.2.2.2.2.2.2.2)) := by rw [efn3]; exact (hm_un (hm_ne hg9 hm0 (fun q => by cases q))).trans hg9
    have h15 : fn3 ((r 10)) = some (eJ Γ 60 (fun i => b4 (ts i).2.1)) := by rw [efn3]; exact (hm_un (hm_ne ht10 hm0 (fun q => by cases q))).trans ht10
    have h16 : fn3 ((r 11)) = some (eI Γ 60 (fun i => nI (ts i).2.2.1)) := by rw [efn3]; exact (hm_un (hm_ne ht11 hm0 (fun q => by cases q))).trans ht11
    have h17 : fn3 ((r 12)) = some (eI Γ 60 (fun i => nI (ts i).1)) := by rw [efn3]; exact (hm_un (hm_ne ht12 hm0 (fun q => by cases q))).trans ht12
    have h18 : fn3 ((r 13)) = some (eI Γ 60 (fun i => (ts i).2.2.2)) := by rw [efn3]; exact (hm_un (hm_ne ht13 hm0 (fun q => by cases q))).trans ht13
    have h19 : fn3 ((r 14)) = some (eJ Γ 64 (fun j => (K j).1)) := by rw [efn3]; exact (hm_un (hm_ne hk0 hm0 (fun q => by cases q))).trans hk0
    have h20 : fn3 ((r 15)) = some (eI Γ 64 (fun j => (K j).2.1)) := by rw [efn3]; exact (hm_un (hm_ne hk1 hm0 (fun q => by cases q))).trans hk1
    have h21 : fn3 ((r 16)) = some (eI Γ 64 (fun j => (K j).2.2.1)) := by rw [efn3]; exact (hm_un (hm_ne hk2 hm0 (fun q => by cases q))).trans hk2
    have h22 : fn3 ((r 17)) = some (eI Γ 64 (fun j => (K j).2.2.2.1)) := by rw [efn3]; exact (hm_un (hm_ne hk3 hm0 (fun q => by cases q))).trans hk3
    have h23 : fn3 ((r 18)) = some (eI Γ 64 (fun j => (K j).2.2.2.2.1)) := by rw [efn3]; exact (hm_un (hm_ne hk4 hm0 (fun q => by cases q))).trans hk4
    have h24 : fn3 ((r 19)) = some (eI Γ 64 (fun j => (K j).2.2.2.2.2.1)) := by rw [efn3]; exact (hm_un (hm_ne hk5 hm0 (fun q => by cases q))).trans hk5
    have h25 : fn3 ((r 20)) = some (eI Γ 64 (fun j => (K j).2.2.2.2.2.2)) := by rw [efn3]; exact (hm_un (hm_ne hk6 hm0 (fun q => by cases q))).trans hk6
    have h26 : fn3 ((r 21)) = some (eJ Γ 6 pb) := by rw [efn3]; exact (hm_un (hm_ne hp0 hm0 (fun q => by cases q))).trans hp0
    have h27 : fn3 ((r 22)) = some (eI Γ 6 pz) := by rw [efn3]; exact (hm_un (hm_ne hp1 hm0 (fun q => by cases q))).trans hp1
    have h28 : fn3 ((r 23)) = some (eI Γ 6 pd) := by rw [efn3]; exact (hm_un (hm_ne hp2 hm0 (fun q => by cases q))).trans hp2
    have h29 : fn3 ((r 24)) = some (eI Γ 6 pn) := by rw [efn3]; exact (hm_un (hm_ne hp3 hm0 (fun q => by cases q))).trans hp3
    have h30 : fn3 ((r 25)) = some (eI Γ 6 pe) := by rw [efn3]; exact (hm_un (hm_ne hp4 hm0 (fun q => by cases q))).trans hp4
    have h31 : fn3 ((r 26)) = some (eI Γ 6 ph) := by rw [efn3]; exact (hm_un (hm_ne hp5 hm0 (fun q => by cases q))).trans hp5
    have h32 : fn3 ((r 27)) = some (eI Γ 6 pg) := by rw [efn3]; exact (hm_un (hm_ne hp6 hm0 (fun q => by cases q))).trans hp6
    refine lv_if_eq (tgt := 24) hx hb dX8_meanPrice_17 (by decide) (fun c33 => absurd c33 (by decide)) (fun _ => ?_)
    refine lv_dconst0 hx hb dX8_meanPrice_20 ?_
    refine lv_goto (tgt := 35) hx hb dX8_meanPrice_21 (by decide) ?_
    have hfr9 : hm_fr (mS m0 r) f fn3 := by
      rw [efn3]
      exact (hm_fr.rf (S := mS m0 r)).up mS_0
    exact hm_dret hx hb hr hlocks hS hH (⟨Or.inr ⟨by rw [hb2]; exact (show (1 : Int32) ≠ 0 by decide), ⟨_, rfl⟩, by rw [hb2]; exact MW.mk hm4 ⟨⟨h19, h20, h21, h22, h23, h24, h25⟩, ⟨_, _, _, _, _, _, _, h26, h27, h28, h29, h30, h31, h32⟩, h5, ⟨h6, h7, h8, h9, h10, h11, h12, h13, h14⟩, h15, h16, h17, h18⟩⟩, hfr9.k⟩) (Nat.le_of_ble_eq_true rfl) (Nat.le_of_ble_eq_true rfl) dX8_meanPrice_35
  · refine lv_iconst (v := 1) hx hb dX8_meanPrice_8 (by decide) ?_
    refine lv_goto (tgt := 13) hx hb dX8_meanPrice_9 (by decide) ?_
    refine lv_iconst (v := 1) hx hb dX8_meanPrice_13 (by decide) ?_
    have hb34 : (decide (0 < nt)) = true := decide_eq_true (Nat.pos_of_ne_zero (fun z => c1 (by rw [hso, z]; exact Int32.le_refl _)))
    refine W.eq (g2 := F0 m 14 ls [.int 1, .int (bI (decide (0 < nt))), .ref m0]) (by rw [hb34]; rfl) ?_
    refine hm_callV (rest := []) (k := 1) q5_119 q5_121 q1_9 q5_122 q0_17 rfl nm_X8_no rfl hx hb hml hown hts hK hO hS hH hl.1 hm0 (c_X8_no Γ l m0 r th (nI np) (nI ng) (nI nt) (nI kp) (nI rr) ck lim dz gd hih mih fh msh msm mso sp rf (decide (0 < nt)) 1 f hm0) ⟨Nat.le_of_ble_eq_true rfl, Nat.le_of_ble_eq_true rfl⟩ ⟨Nat.le_of_ble_eq_true rfl, Nat.le_of_ble_eq_true rfl⟩ rfl (Nat.le_of_ble_eq_true rfl) dX8_meanPrice_14 (fun v_ fn35 H locs hp_ hH hS => ?_)
    obtain ⟨rfl, efn35⟩ := hp_
    rw [hb34] at efn35
    refine W.eq (g2 := F0 m 17 ls [.int 0]) (by rw [hb34]; rfl) ?_
    have hm36 : fn35 m0 = some (eM r 0 (nI np) (nI ng) (nI nt) (nI kp) (nI rr) ck lim dz gd hih mih fh msh msm mso sp rf) := by rw [efn35]; exact hm_us
    have h37 : fn35 ((r 0)) = some (eI Γ 4 mon) := by rw [efn35]; exact (hm_un (hm_ne h0 hm0 (fun q => by cases q))).trans h0
    have h38 : fn35 ((r 1)) = some (eJ Γ 8 (fun i => b4 (gs i).2.1)) := by rw [efn35]; exact (hm_un (hm_ne hg1 hm0 (fun q => by cases q))).trans hg1
    have h39 : fn35 ((r 2)) = some (eI Γ 8 (fun i => nI (gs i).2.2.1)) := by rw [efn35]; exact (hm_un (hm_ne hg2 hm0 (fun q => by cases q))).trans hg2
    have h40 : fn35 ((r 3)) = some (eI Γ 8 (fun i => nI (gs i).1)) := by rw [efn35]; exact (hm_un (hm_ne hg3 hm0 (fun q => by cases q))).trans hg3
    have h41 : fn35 ((r 4)) = some (eI Γ 8 (fun i => (gs i).2.2.2.1)) := by rw [efn35]; exact (hm_un (hm_ne hg4 hm0 (fun q => by cases q))).trans hg4
    have h42 : fn35 ((r 5)) = some (eI Γ 8 (fun i => (gs i).2.2.2.2.1)) := by rw [efn35]; exact (hm_un (hm_ne hg5 hm0 (fun q => by cases q))).trans hg5
    have h43 : fn35 ((r 6)) = some (eI Γ 8 (fun i => (gs i).2.2.2.2.2.1)) := by rw [efn35]; exact (hm_un (hm_ne hg6 hm0 (fun q => by cases q))).trans hg6
    have h44 : fn35 ((r 7)) = some (eI Γ 8 (fun i => (gs i).2.2.2.2.2.2.1)) := by rw [efn35]; exact (hm_un (hm_ne hg7 hm0 (fun q => by cases q))).trans hg7
    have h45 : fn35 ((r 8)) = some (eI Γ 8 (fun i => (gs i).2.2.2.2.2.2.2.1)) := by rw [efn35]; exact (hm_un (hm_ne hg8 hm0 (fun q => by cases q))).trans hg8
    have h46 : fn35 ((r 9)) = some (eZ Γ 8 (fun i => bI (gs i).2.2.2.2.2.2.2.2)) := by rw [efn35]; exact (hm_un (hm_ne hg9 hm0 (fun q => by cases q))).trans hg9
    have h47 : fn35 ((r 10)) = some (eJ Γ 60 (fun i => b4 (ts i).2.1)) := by rw [efn35]; exact (hm_un (hm_ne ht10 hm0 (fun q => by cases q))).trans ht10
    have h48 : fn35 ((r 11)) = some (eI Γ 60 (fun i => nI (ts i).2.2.1)) := by rw [efn35]; exact (hm_un (hm_ne ht11 hm0 (fun q => by cases q))).trans ht11
    have h49 : fn35 ((r 12)) = some (eI Γ 60 (fun i => nI (ts i).1)) := by rw [efn35]; exact (hm_un (hm_ne ht12 hm0 (fun q => by cases q))).trans ht12
    have h50 : fn35 ((r 13)) = some (eI Γ 60 (fun i => (ts i).2.2.2)) := by rw [efn35]; exact (hm_un (hm_ne ht13 hm0 (fun q => by cases q))).trans ht13
    have h51 : fn35 ((r 14)) = some (eJ Γ 64 (fun j => (K j).1)) := by rw [efn35]; exact (hm_un (hm_ne hk0 hm0 (fun q => by cases q))).trans hk0
    have h52 : fn35 ((r 15)) = some (eI Γ 64 (fun j => (K j).2.1)) := by rw [efn35]; exact (hm_un (hm_ne hk1 hm0 (fun q => by cases q))).trans hk1
    have h53 : fn35 ((r 16)) = some (eI Γ 64 (fun j => (K j).2.2.1)) := by rw [efn35]; exact (hm_un (hm_ne hk2 hm0 (fun q => by cases q))).trans hk2
    have h54 : fn35 ((r 17)) = some (eI Γ 64 (fun j => (K j).2.2.2.1)) := by rw [efn35]; exact (hm_un (hm_ne hk3 hm0 (fun q => by cases q))).trans hk3
    have h55 : fn35 ((r 18)) = some (eI Γ 64 (fun j => (K j).2.2.2.2.1)) := by rw [efn35]; exact (hm_un (hm_ne hk4 hm0 (fun q => by cases q))).trans hk4
    have h56 : fn35 ((r 19)) = some (eI Γ 64 (fun j => (K j).2.2.2.2.2.1)) := by rw [efn35]; exact (hm_un (hm_ne hk5 hm0 (fun q => by cases q))).trans hk5
    have h57 : fn35 ((r 20)) = some (eI Γ 64 (fun j => (K j).2.2.2.2.2.2)) := by rw [efn35]; exact (hm_un (hm_ne hk6 hm0 (fun q => by cases q))).trans hk6
    have h58 : fn35 ((r 21)) = some (eJ Γ 6 pb) := by rw [efn35]; exact (hm_un (hm_ne hp0 hm0 (fun q => by cases q))).trans hp0
    have h59 : fn35 ((r 22)) = some (eI Γ 6 pz) := by rw [efn35]; exact (hm_un (hm_ne hp1 hm0 (fun q => by cases q))).trans hp1
    have h60 : fn35 ((r 23)) = some (eI Γ 6 pd) := by rw [efn35]; exact (hm_un (hm_ne hp2 hm0 (fun q => by cases q))).trans hp2
    have h61 : fn35 ((r 24)) = some (eI Γ 6 pn) := by rw [efn35]; exact (hm_un (hm_ne hp3 hm0 (fun q => by cases q))).trans hp3
    have h62 : fn35 ((r 25)) = some (eI Γ 6 pe) := by rw [efn35]; exact (hm_un (hm_ne hp4 hm0 (fun q => by cases q))).trans hp4
    have h63 : fn35 ((r 26)) = some (eI Γ 6 ph) := by rw [efn35]; exact (hm_un (hm_ne hp5 hm0 (fun q => by cases q))).trans hp5
    have h64 : fn35 ((r 27)) = some (eI Γ 6 pg) := by rw [efn35]; exact (hm_un (hm_ne hp6 hm0 (fun q => by cases q))).trans hp6
    refine lv_if_eq (tgt := 24) hx hb dX8_meanPrice_17 (by decide) (fun _ => ?_) (fun c65 => absurd (by decide) c65)
    refine lv_aload_n hx hb dX8_meanPrice_24 rfl (lv_at hl 0 rfl) ?_
    refine gf_X8_227 hx hb hts hown hK hH hm36 rfl dX8_meanPrice_25 ?_
    refine lv_l2d hx hb dX8_meanPrice_28 ?_
    refine lv_aload_n hx hb dX8_meanPrice_29 rfl (lv_at hl 0 rfl) ?_
    refine gf_X8_224 hx hb hts hown hK hH hm36 rfl dX8_meanPrice_30 ?_
    refine lv_i2d hx hb dX8_meanPrice_33 ?_
    refine lv_ddiv hx hb dX8_meanPrice_34 (by rw [hso]; exact nan64 (dl_all (of_decide_eq_true hb34) (by omega) _ (dl_num _))) ?_
    have hfr9 : hm_fr (mS m0 r) f fn35 := by
      rw [efn35]
      exact (hm_fr.rf (S := mS m0 r)).up mS_0
    exact hm_dret hx hb hr hlocks hS hH (⟨Or.inl ⟨by rw [hb34]; rfl, rfl, MW.mk hm36 ⟨⟨h51, h52, h53, h54, h55, h56, h57⟩, ⟨_, _, _, _, _, _, _, h58, h59, h60, h61, h62, h63, h64⟩, h37, ⟨h38, h39, h40, h41, h42, h43, h44, h45, h46⟩, h47, h48, h49, h50⟩⟩, hfr9.k⟩) (Nat.le_of_ble_eq_true rfl) (Nat.le_of_ble_eq_true rfl) dX8_meanPrice_35
set_option maxHeartbeats 4000000 in
set_option maxRecDepth 100000 in
theorem t_X7_hitShare (Γ : Gm) (l : Launch) (x0 : Nat) (mf : Nat → Int32) (E : Nat → EV) (cn us : Int32) (so sh sm : Int64) (np : Nat) (mon : Nat → Int32) (ng : Nat) (gs : Nat → GS) (nt : Nat) (ts : Nat → TR) (lim : Int32) (rf sp : Int64) (rr : Nat) (a b : Nat) (f : Hm) (hst : l.stackTraces = false) (hC : CW Γ f x0 mf E cn us so sh sm np mon ng gs nt ts lim rf sp rr) (hnp : np ≤ 4) (hng : ng ≤ 8) (hnt : nt ≤ 60) (hr1 : 1 ≤ rr) (hrr : rr ≤ 64) (hgs : GOK np ng gs) (hsh : sh = lN a) (hsm : sm = lN b) (hab : a + b < 2 ^ 24) : Cx Γ l yX7_hitShare cX7_hitShare 3 (some .float) 2 1 6 [.ref x0] f (fun v f' => (if decide (a + b = 0) then 1 else 0 : Int32) = 0 ∧ v = some (.float (FP.fdiv (FP.i2f (nI a)) (FP.i2f (nI (a + b))))) ∧ CW Γ f' x0 mf E cn us so sh sm np mon ng gs nt ts lim rf sp rr ∧ hm_kd kM Γ f f') (cY [("java/lang/ArithmeticException", 1)] (if decide (a + b = 0) then 1 else 0) Γ f (fun f' => CW Γ f' x0 mf E cn us so sh sm np mon ng gs nt ts lim rf sp rr)) := by
  refine Cx_of (by decide +kernel) (Nat.le_of_ble_eq_true rfl) ?_
  intro p e s m args below meth c hx hb hr hml hown hin hlocks hout hts hH hO hK ls hl
  have hl0 := hl
  have hl : lv_has ls 3 [(0, .ref x0)] := hl
  have hS : va_S (gA Γ) s.heap s.heap [] := va_S.rf
  obtain ⟨lp, lg, lt, ca, tr, pl, hCL, hCD⟩ := id hC
  obtain ⟨hx0, aP, cp_, P, aG, cg_, G, aT, ct_, T, ⟨hLP, hcP, hP, hPj⟩, ⟨hLG, hcG, hG, hGj⟩, ⟨hLT, hcT, hT⟩, ⟨hpg, hpt, hgt⟩, hPG, hPT, hGT⟩ := id hCL
  obtain ⟨⟨moP, hlP⟩, -⟩ := id hLP
  obtain ⟨⟨moG, hlG⟩, -⟩ := id hLG
  obtain ⟨⟨moT, hlT⟩, -⟩ := id hLT
  refine lv_aload_n hx hb dX7_hitShare_0 rfl (lv_at hl 0 rfl) ?_
  refine gf_X7_57 hx hb hts hown hK hH hx0 rfl dX7_hitShare_1 ?_
  refine lv_aload_n hx hb dX7_hitShare_4 rfl (lv_at hl 0 rfl) ?_
  refine gf_X7_60 hx hb hts hown hK hH hx0 rfl dX7_hitShare_5 ?_
  refine lv_ladd hx hb dX7_hitShare_8 ?_
  refine lv_topl (fun v1 ev1 => ?_)
  replace ev1 : v1 = lN (a + b) := ev1.trans (by rw [hsh, hsm]; exact lN_add _ _)
  subst ev1
  refine lv_lstore_n (lv' := [(1, .long (lN (a + b))), (0, .ref x0)]) hx hb dX7_hitShare_9 rfl hl (by decide) rfl (fun ls hl => ?_)
  refine lv_lload_n hx hb dX7_hitShare_10 rfl (lv_at hl 0 rfl) ?_
  refine lv_lconst (v := 0) hx hb dX7_hitShare_11 (by decide) ?_
  refine W.lcmp hx hb dX7_hitShare_12 ?_
  refine lv_if_ne (tgt := 26) hx hb dX7_hitShare_13 (by decide) (fun c3 => ?_) (fun c3 => ?_)
  · refine lv_aload_n hx hb dX7_hitShare_26 rfl (lv_at hl 1 rfl) ?_
    refine gf_X7_57 hx hb hts hown hK hH hx0 rfl dX7_hitShare_27 ?_
    refine lv_l2f hx hb dX7_hitShare_30 ?_
    refine lv_lload_n hx hb dX7_hitShare_31 rfl (lv_at hl 0 rfl) ?_
    refine lv_l2f hx hb dX7_hitShare_32 ?_
    refine lv_fdiv hx hb dX7_hitShare_33 (by rw [fl_lf (by omega)]; exact nan32 (fl_all (by have h_ : ¬ a + b = 0 := (fun z => c3 (m_cmp.mpr ((lN_eq0 (by omega)).mpr z))); omega) (by omega) _ (by rw [hsh, fl_lf (by omega)]; exact fl_num _))) ?_
    exact vx_ret (hm_fret hx hb hr hlocks hS hH (⟨by rw [decide_eq_false (fun z => c3 (m_cmp.mpr ((lN_eq0 (by omega)).mpr z)))]; rfl, by rw [hsh, fl_lf (by omega), fl_lf (by omega)], hC, hm_kd.rf⟩) (Nat.le_of_ble_eq_true rfl) (Nat.le_of_ble_eq_true rfl) dX7_hitShare_34)
  · exact hm_thr hx hb hst hml hl.1 hown q4_192 q1_29 (text := "no hint that was sold made a hit or a miss") (by decide) xA_AR (by decide +kernel) hts hK hO hS hH dX7_hitShare_16 dX7_hitShare_19 dX7_hitShare_20 dX7_hitShare_22 dX7_hitShare_25 hout hlocks (by have hb0 : decide (a + b = 0) = true := decide_eq_true ((lN_eq0 (by omega)).mp (m_cmp.mp c3)); exact ⟨by rw [hb0]; exact (show (1 : Int32) ≠ 0 by decide), by rw [hb0]; exact (Or.inl ⟨rfl, rfl⟩), hC, hm_kd.rf⟩) (Nat.le_of_ble_eq_true rfl) (Nat.le_of_ble_eq_true rfl) (Nat.le_of_ble_eq_true rfl) (Nat.le_of_ble_eq_true rfl) (Nat.le_of_ble_eq_true rfl) (Nat.le_of_ble_eq_true rfl)
set_option maxHeartbeats 4000000 in
set_option maxRecDepth 100000 in
theorem t_X7_meanPrice (Γ : Gm) (l : Launch) (x0 : Nat) (mf : Nat → Int32) (E : Nat → EV) (cn us : Int32) (so sh sm : Int64) (np : Nat) (mon : Nat → Int32) (ng : Nat) (gs : Nat → GS) (nt : Nat) (ts : Nat → TR) (lim : Int32) (rf sp : Int64) (rr : Nat)  (f : Hm) (hst : l.stackTraces = false) (hC : CW Γ f x0 mf E cn us so sh sm np mon ng gs nt ts lim rf sp rr) (hnp : np ≤ 4) (hng : ng ≤ 8) (hnt : nt ≤ 60) (hr1 : 1 ≤ rr) (hrr : rr ≤ 64) (hgs : GOK np ng gs) (hso : so = lN nt) : Cx Γ l yX7_meanPrice cX7_meanPrice 1 (some .double) 2 1 6 [.ref x0] f (fun v f' => (if decide (0 < nt) then 0 else 1 : Int32) = 0 ∧ v = some (.double (FP.ddiv (FP.l2d sp) (FP.i2d (nI nt)))) ∧ CW Γ f' x0 mf E cn us so sh sm np mon ng gs nt ts lim rf sp rr ∧ hm_kd kM Γ f f') (cY [("java/lang/ArithmeticException", 1)] (if decide (0 < nt) then 0 else 1) Γ f (fun f' => CW Γ f' x0 mf E cn us so sh sm np mon ng gs nt ts lim rf sp rr)) := by
  refine Cx_of (by decide +kernel) (Nat.le_of_ble_eq_true rfl) ?_
  intro p e s m args below meth c hx hb hr hml hown hin hlocks hout hts hH hO hK ls hl
  have hl0 := hl
  have hl : lv_has ls 1 [(0, .ref x0)] := hl
  have hS : va_S (gA Γ) s.heap s.heap [] := va_S.rf
  obtain ⟨lp, lg, lt, ca, tr, pl, hCL, hCD⟩ := id hC
  obtain ⟨hx0, aP, cp_, P, aG, cg_, G, aT, ct_, T, ⟨hLP, hcP, hP, hPj⟩, ⟨hLG, hcG, hG, hGj⟩, ⟨hLT, hcT, hT⟩, ⟨hpg, hpt, hgt⟩, hPG, hPT, hGT⟩ := id hCL
  obtain ⟨⟨moP, hlP⟩, -⟩ := id hLP
  obtain ⟨⟨moG, hlG⟩, -⟩ := id hLG
  obtain ⟨⟨moT, hlT⟩, -⟩ := id hLT
  refine lv_aload_n hx hb dX7_meanPrice_0 rfl (lv_at hl 0 rfl) ?_
  refine gf_X7_51 hx hb hts hown hK hH hx0 rfl dX7_meanPrice_1 ?_
  refine lv_lconst (v := 0) hx hb dX7_meanPrice_4 (by decide) ?_
  refine W.lcmp hx hb dX7_meanPrice_5 ?_
  refine lv_if_ne (tgt := 19) hx hb dX7_meanPrice_6 (by decide) (fun c2 => ?_) (fun c2 => ?_)
  · refine lv_aload_n hx hb dX7_meanPrice_19 rfl (lv_at hl 0 rfl) ?_
    refine gf_X7_54 hx hb hts hown hK hH hx0 rfl dX7_meanPrice_20 ?_
    refine lv_l2d hx hb dX7_meanPrice_23 ?_
    refine lv_aload_n hx hb dX7_meanPrice_24 rfl (lv_at hl 0 rfl) ?_
    refine gf_X7_51 hx hb hts hown hK hH hx0 rfl dX7_meanPrice_25 ?_
    refine lv_l2d hx hb dX7_meanPrice_28 ?_
    refine lv_ddiv hx hb dX7_meanPrice_29 (by rw [hso, dl_ld (by omega)]; exact nan64 (dl_all (Nat.pos_of_ne_zero (fun z => c2 (m_cmp.mpr (by rw [hso, z]; rfl)))) (by omega) _ (dl_num _))) ?_
    exact vx_ret (hm_dret hx hb hr hlocks hS hH (⟨by rw [decide_eq_true (Nat.pos_of_ne_zero (fun z => c2 (m_cmp.mpr (by rw [hso, z]; rfl))))]; rfl, by rw [hso, dl_ld (by omega)], hC, hm_kd.rf⟩) (Nat.le_of_ble_eq_true rfl) (Nat.le_of_ble_eq_true rfl) dX7_meanPrice_30)
  · exact hm_thr hx hb hst hml hl.1 hown q4_192 q1_29 (text := "no hint was sold") (by decide) xA_AR (by decide +kernel) hts hK hO hS hH dX7_meanPrice_9 dX7_meanPrice_12 dX7_meanPrice_13 dX7_meanPrice_15 dX7_meanPrice_18 hout hlocks (by have hb0 : decide (0 < nt) = false := decide_eq_false (by have h_ := (lN_eq0 (a := nt) (by omega)).mp (by rw [← hso]; exact m_cmp.mp c2); omega); exact ⟨by rw [hb0]; exact (show (1 : Int32) ≠ 0 by decide), by rw [hb0]; exact (Or.inl ⟨rfl, rfl⟩), hC, hm_kd.rf⟩) (Nat.le_of_ble_eq_true rfl) (Nat.le_of_ble_eq_true rfl) (Nat.le_of_ble_eq_true rfl) (Nat.le_of_ble_eq_true rfl) (Nat.le_of_ble_eq_true rfl) (Nat.le_of_ble_eq_true rfl)
