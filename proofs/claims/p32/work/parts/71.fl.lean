/-! the floats: hitShare, meanPrice -/
theorem nan32 {r : UInt32} (h : FP.Core.val32 r ≠ .nan) : vf_n32 r := by
  have hd : ¬ (r.toNat / 8388608 % 256 = 255 ∧ r.toNat % 8388608 ≠ 0) := by
    rintro ⟨h1, h2⟩
    apply h
    show FP.Core.decode FP.Core.b32 r.toNat = .nan
    unfold FP.Core.decode
    rw [if_pos (show FP.Core.fieldE FP.Core.b32 r.toNat = FP.Core.b32.exps - 1 from h1), if_neg (show ¬ FP.Core.fieldT FP.Core.b32 r.toNat = 0 from h2)]
  have hn := r.toNat_lt
  unfold vf_n32
  rw [UInt32.le_iff_toNat_le, UInt32.toNat_and]
  show r.toNat &&& 2147483647 ≤ 2139095040
  rw [show 2147483647 = 2 ^ 31 - 1 from rfl, Nat.and_two_pow_sub_one_eq_mod]
  omega
theorem nan64 {r : UInt64} (h : FP.Core.val64 r ≠ .nan) : vf_n64 r := by
  have hd : ¬ (r.toNat / 4503599627370496 % 2048 = 2047 ∧ r.toNat % 4503599627370496 ≠ 0) := by
    rintro ⟨h1, h2⟩
    apply h
    show FP.Core.decode FP.Core.b64 r.toNat = .nan
    unfold FP.Core.decode
    rw [if_pos (show FP.Core.fieldE FP.Core.b64 r.toNat = FP.Core.b64.exps - 1 from h1), if_neg (show ¬ FP.Core.fieldT FP.Core.b64 r.toNat = 0 from h2)]
  have hn := r.toNat_lt
  unfold vf_n64
  rw [UInt64.le_iff_toNat_le, UInt64.toNat_and]
  show r.toNat &&& 9223372036854775807 ≤ 9218868437227405312
  rw [show 9223372036854775807 = 2 ^ 63 - 1 from rfl, Nat.and_two_pow_sub_one_eq_mod]
  omega
theorem rr_nn (f : FP.Core.Fmt) (s : Bool) (n d : Nat) (e : Int) : FP.Core.roundRatio f s n d e ≠ .nan := by
  unfold FP.Core.roundRatio FP.Core.roundAt FP.Core.settle FP.Core.bound
  split
  · intro h; cases h
  · split <;> split <;> (intro h; cases h)
theorem whole_c {i : Int} (hi : i ≠ 0) {d : FP.Core.Datum} (h : FP.Core.Whole i d) : ∃ s c q, d = .fin s c q ∧ c ≠ 0 := by
  cases d with
  | nan => exact h.elim
  | inf s => exact h.elim
  | fin s c q =>
    refine ⟨s, c, q, rfl, fun z => hi ?_⟩
    subst z
    have h' : FP.Core.signed s (0 * 2 ^ q.toNat) = i * ((2 ^ (-q).toNat : Nat) : Int) := h
    have h0 : FP.Core.signed s (0 * 2 ^ q.toNat) = 0 := by rw [Nat.zero_mul]; cases s <;> rfl
    rw [h0] at h'
    have hp := Nat.two_pow_pos (-q).toNat
    rcases Int.mul_eq_zero.mp h'.symm with z | z
    · exact z
    · omega
theorem quo_nn {f : FP.Core.Fmt} {d : FP.Core.Datum} {s : Bool} {c : Nat} {q : Int} (hd : d ≠ .nan) (hc : c ≠ 0) : FP.Core.quotient f d (.fin s c q) ≠ .nan := by
  cases d with
  | nan => exact absurd rfl hd
  | inf t => intro h; cases h
  | fin t c' q' =>
    show (if c = 0 then _ else _) ≠ _
    rw [if_neg hc]
    exact rr_nn _ _ _ _ _
theorem fl_all {n : Nat} (h0 : 0 < n) (h1 : n ≤ 2 ^ 24) (x : UInt32) (hx : FP.Core.val32 x ≠ .nan) : FP.Core.val32 (FP.fdiv x (FP.i2f (nI n))) ≠ .nan := by
  show FP.Core.val32 (FP.Core.fdiv x (FP.Core.i2f (nI n))) ≠ .nan
  rw [FP.Core.val32_fdiv, FP.Core.val32_i2f, nI_toInt (by omega)]
  obtain ⟨s, c, q, e, hc⟩ := whole_c (i := (n : Int)) (by omega) (FP.Core.whole_round FP.Core.good_b32 FP.Core.wide_b32 (by show n ≤ 2 ^ 24; exact h1) (FP.Core.whole_ofInt (n : Int)))
  rw [e]
  exact quo_nn hx hc
theorem fl_num (v : Int32) : FP.Core.val32 (FP.i2f v) ≠ .nan := by
  show FP.Core.val32 (FP.Core.i2f v) ≠ .nan
  rw [FP.Core.val32_i2f]
  exact rr_nn _ _ _ _ _
theorem fl_lf {a : Nat} (h : a < 2 ^ 31) : FP.l2f (lN a) = FP.i2f (nI a) := by
  show FP.Core.l2f (lN a) = FP.Core.i2f (nI a)
  unfold FP.Core.l2f FP.Core.i2f
  rw [pk_lT (by omega), nI_toInt h]
theorem dl_ld {a : Nat} (h : a < 2 ^ 31) : FP.l2d (lN a) = FP.i2d (nI a) := by
  show FP.Core.l2d (lN a) = FP.Core.i2d (nI a)
  unfold FP.Core.l2d FP.Core.i2d
  rw [pk_lT (by omega), nI_toInt h]
theorem dl_num (v : Int64) : FP.Core.val64 (FP.l2d v) ≠ .nan := by
  show FP.Core.val64 (FP.Core.l2d v) ≠ .nan
  rw [FP.Core.val64_l2d]
  exact rr_nn _ _ _ _ _
theorem dl_all {n : Nat} (h0 : 0 < n) (h1 : n ≤ 2 ^ 24) (x : UInt64) (hx : FP.Core.val64 x ≠ .nan) : FP.Core.val64 (FP.ddiv x (FP.i2d (nI n))) ≠ .nan := by
  show FP.Core.val64 (FP.Core.ddiv x (FP.Core.i2d (nI n))) ≠ .nan
  rw [FP.Core.val64_ddiv, FP.Core.val64_i2d, nI_toInt (by omega)]
  obtain ⟨s, c, q, e, hc⟩ := whole_c (i := (n : Int)) (by omega) (FP.Core.whole_round FP.Core.good_b64 FP.Core.wide_b64 (by show n ≤ 2 ^ 53; omega) (FP.Core.whole_ofInt (n : Int)))
  rw [e]
  exact quo_nn hx hc
theorem fd_nn {x : UInt32} (hx : FP.Core.val32 x ≠ .nan) : FP.Core.val64 (FP.f2d x) ≠ .nan := by
  unfold FP.f2d
  rw [if_neg (fun z => hx ((FP.Core.fIsNaN_iff x).mp z)), FP.Core.val64_f2d]
  cases h : FP.Core.val32 x with
  | nan => exact absurd h hx
  | inf s => intro z; cases z
  | fin s c q => exact rr_nn _ _ _ _ _
section FR
variable {p : Program} {l : Launch} {e : Env} {R : Room} {s : State} {m : MethodId} {args : Array Value} {below : List Frame} {meth : Method} {c : Code} {H : Heap} {locs : List Loc} {cells slots : Nat} {cc : ByteArray} {pc : Nat} {ls : Array Slot} {Γ : Gm} {f : Hm}
theorem hm_fret {mc ms : Nat} {Post : Option Value → Hm → Prop} {v : UInt32} (hx : p.tables.exec = Jvm.exec) (hb : c.code = cc) (hr : meth.sig.returnType = some .float) (hlocks : meth.locks = false) (hS : va_S (gA Γ) s.heap H locs) (hH : hm_H Γ f H) (hp : Post (some (.float v)) f) (hc : cells ≤ mc) (hs : slots ≤ ms) (hdg : decode cc pc = .ok (.freturn, 1)) :
    W p l e R s m args below meth c H locs cells slots (MQ below (hm_Q Γ Post) args s mc ms (gA Γ)) (F0 m pc ls [.float v]) :=
  W.widen hc hs (W.fret hx hb hr (fun t ht hW => ⟨⟨_, f, rfl, hp, by rw [ht]; exact hH⟩, hS.F ht⟩) hS.2.2 hdg hlocks)
theorem hm_dret {mc ms : Nat} {Post : Option Value → Hm → Prop} {v : UInt64} (hx : p.tables.exec = Jvm.exec) (hb : c.code = cc) (hr : meth.sig.returnType = some .double) (hlocks : meth.locks = false) (hS : va_S (gA Γ) s.heap H locs) (hH : hm_H Γ f H) (hp : Post (some (.double v)) f) (hc : cells ≤ mc) (hs : slots ≤ ms) (hdg : decode cc pc = .ok (.dreturn, 1)) :
    W p l e R s m args below meth c H locs cells slots (MQ below (hm_Q Γ Post) args s mc ms (gA Γ)) (F0 m pc ls [.double v]) :=
  W.widen hc hs (W.dret hx hb hr (fun t ht hW => ⟨⟨_, f, rfl, hp, by rw [ht]; exact hH⟩, hS.F ht⟩) hS.2.2 hdg hlocks)
end FR
theorem nI_add0 {a : Nat} (h : a < 2 ^ 31) : nI a = 0 ↔ a = 0 := m_z h
theorem lN_eq0 {a : Nat} (h : a < 2 ^ 63) : lN a = 0 ↔ a = 0 := by
  constructor
  · intro q
    have := congrArg Int64.toInt q
    rw [pk_lT h] at this
    exact Int.ofNat_eq_zero.mp this
  · rintro rfl; rfl
set_option maxHeartbeats 4000000 in
set_option maxRecDepth 100000 in
theorem t_X7_hitShare (Γ : Gm) (l : Launch) (x0 : Nat) (mf : Nat → Int32) (E : Nat → EV) (cn us : Int32) (so sh sm : Int64) (np : Nat) (mon : Nat → Int32) (ng : Nat) (gs : Nat → GS) (nt : Nat) (ts : Nat → TR) (lim : Int32) (rf sp : Int64) (rr : Nat) (a b : Nat) (f : Hm) (hst : l.stackTraces = false) (hC : CW Γ f x0 mf E cn us so sh sm np mon ng gs nt ts lim rf sp rr) (hnp : np ≤ 4) (hng : ng ≤ 8) (hnt : nt ≤ 60) (hr1 : 1 ≤ rr) (hrr : rr ≤ 64) (hgs : GOK np ng gs) (hsh : sh = lN a) (hsm : sm = lN b) (hab : a + b < 2 ^ 24) : Cx Γ l yX7_hitShare cX7_hitShare 3 (some .float) 2 1 6 [.ref x0] f (fun v f' => (if decide (a + b = 0) then 1 else 0 : Int32) = 0 ∧ v = some (.float (FP.fdiv (FP.i2f (nI a)) (FP.i2f (nI (a + b))))) ∧ CW Γ f' x0 mf E cn us so sh sm np mon ng gs nt ts lim rf sp rr ∧ hm_kd kM Γ f f') (cY [("java/lang/ArithmeticException", 1)] (if decide (a + b = 0) then 1 else 0) Γ f (fun f' => CW Γ f' x0 mf E cn us so sh sm np mon ng gs nt ts lim rf sp rr)) := by
  refine Cx_of (by decide +kernel) (Nat.le_of_ble_eq_true rfl) ?_
  intro p e s m args below meth c hx hb hr hml hown hin hlocks hout hts hH hO hK ls hl
  have hl0 := hl
  have hl : lv_has ls 3 [(0, .ref x0)] := hl
  have hS : va_S (gA Γ) s.heap s.heap [] := va_S.rf
  obtain ⟨lp, lg, lt, ca, tr, pl, hCL, hCD⟩ := id hC
  obtain ⟨hx0, aP, cp_, P, aG, cg_, G, aT, ct_, T, ⟨hLP, hcP, hP, hPj⟩, ⟨hLG, hcG, hG, hGj⟩, ⟨hLT, hcT, hT⟩, ⟨hpg, hpt, hgt⟩, hPG, hPT, hGT⟩ := id hCL
  obtain ⟨⟨moP, hlP⟩, -⟩ := id hLP
  obtain ⟨⟨moG, hlG⟩, -⟩ := id hLG
  obtain ⟨⟨moT, hlT⟩, -⟩ := id hLT
  refine lv_aload_n hx hb dX7_hitShare_0 rfl (lv_at hl 0 rfl) ?_
  refine gf_X7_57 hx hb hts hown hK hH hx0 rfl dX7_hitShare_1 ?_
  refine lv_aload_n hx hb dX7_hitShare_4 rfl (lv_at hl 0 rfl) ?_
  refine gf_X7_60 hx hb hts hown hK hH hx0 rfl dX7_hitShare_5 ?_
  refine lv_ladd hx hb dX7_hitShare_8 ?_
  refine lv_topl (fun v1 ev1 => ?_)
  replace ev1 : v1 = lN (a + b) := ev1.trans (by rw [hsh, hsm]; exact lN_add _ _)
  subst ev1
  refine lv_lstore_n (lv' := [(1, .long (lN (a + b))), (0, .ref x0)]) hx hb dX7_hitShare_9 rfl hl (by decide) rfl (fun ls hl => ?_)
  refine lv_lload_n hx hb dX7_hitShare_10 rfl (lv_at hl 0 rfl) ?_
  refine lv_lconst (v := 0) hx hb dX7_hitShare_11 (by decide) ?_
  refine W.lcmp hx hb dX7_hitShare_12 ?_
  refine lv_if_ne (tgt := 26) hx hb dX7_hitShare_13 (by decide) (fun c3 => ?_) (fun c3 => ?_)
  · refine lv_aload_n hx hb dX7_hitShare_26 rfl (lv_at hl 1 rfl) ?_
    refine gf_X7_57 hx hb hts hown hK hH hx0 rfl dX7_hitShare_27 ?_
    refine lv_l2f hx hb dX7_hitShare_30 ?_
    refine lv_lload_n hx hb dX7_hitShare_31 rfl (lv_at hl 0 rfl) ?_
    refine lv_l2f hx hb dX7_hitShare_32 ?_
    refine lv_fdiv hx hb dX7_hitShare_33 (by rw [fl_lf (by omega)]; exact nan32 (fl_all (by have h_ : ¬ a + b = 0 := (fun z => c3 (m_cmp.mpr ((lN_eq0 (by omega)).mpr z))); omega) (by omega) _ (by rw [hsh, fl_lf (by omega)]; exact fl_num _))) ?_
    exact vx_ret (hm_fret hx hb hr hlocks hS hH (⟨by rw [decide_eq_false (fun z => c3 (m_cmp.mpr ((lN_eq0 (by omega)).mpr z)))]; rfl, by rw [hsh, fl_lf (by omega), fl_lf (by omega)], hC, hm_kd.rf⟩) (Nat.le_of_ble_eq_true rfl) (Nat.le_of_ble_eq_true rfl) dX7_hitShare_34)
  · exact hm_thr hx hb hst hml hl.1 hown q4_89 q1_28 (text := "no hint that was sold made a hit or a miss") (by decide) xA_AR (by decide +kernel) hts hK hO hS hH dX7_hitShare_16 dX7_hitShare_19 dX7_hitShare_20 dX7_hitShare_22 dX7_hitShare_25 hout hlocks (by have hb0 : decide (a + b = 0) = true := decide_eq_true ((lN_eq0 (by omega)).mp (m_cmp.mp c3)); exact ⟨by rw [hb0]; exact (show (1 : Int32) ≠ 0 by decide), by rw [hb0]; exact (Or.inl ⟨rfl, rfl⟩), hC, hm_kd.rf⟩) (Nat.le_of_ble_eq_true rfl) (Nat.le_of_ble_eq_true rfl) (Nat.le_of_ble_eq_true rfl) (Nat.le_of_ble_eq_true rfl) (Nat.le_of_ble_eq_true rfl) (Nat.le_of_ble_eq_true rfl)
set_option maxHeartbeats 4000000 in
set_option maxRecDepth 100000 in
theorem t_X7_meanPrice (Γ : Gm) (l : Launch) (x0 : Nat) (mf : Nat → Int32) (E : Nat → EV) (cn us : Int32) (so sh sm : Int64) (np : Nat) (mon : Nat → Int32) (ng : Nat) (gs : Nat → GS) (nt : Nat) (ts : Nat → TR) (lim : Int32) (rf sp : Int64) (rr : Nat)  (f : Hm) (hst : l.stackTraces = false) (hC : CW Γ f x0 mf E cn us so sh sm np mon ng gs nt ts lim rf sp rr) (hnp : np ≤ 4) (hng : ng ≤ 8) (hnt : nt ≤ 60) (hr1 : 1 ≤ rr) (hrr : rr ≤ 64) (hgs : GOK np ng gs) (hso : so = lN nt) : Cx Γ l yX7_meanPrice cX7_meanPrice 1 (some .double) 2 1 6 [.ref x0] f (fun v f' => (if decide (0 < nt) then 0 else 1 : Int32) = 0 ∧ v = some (.double (FP.ddiv (FP.l2d sp) (FP.i2d (nI nt)))) ∧ CW Γ f' x0 mf E cn us so sh sm np mon ng gs nt ts lim rf sp rr ∧ hm_kd kM Γ f f') (cY [("java/lang/ArithmeticException", 1)] (if decide (0 < nt) then 0 else 1) Γ f (fun f' => CW Γ f' x0 mf E cn us so sh sm np mon ng gs nt ts lim rf sp rr)) := by
  refine Cx_of (by decide +kernel) (Nat.le_of_ble_eq_true rfl) ?_
  intro p e s m args below meth c hx hb hr hml hown hin hlocks hout hts hH hO hK ls hl
  have hl0 := hl
  have hl : lv_has ls 1 [(0, .ref x0)] := hl
  have hS : va_S (gA Γ) s.heap s.heap [] := va_S.rf
  obtain ⟨lp, lg, lt, ca, tr, pl, hCL, hCD⟩ := id hC
  obtain ⟨hx0, aP, cp_, P, aG, cg_, G, aT, ct_, T, ⟨hLP, hcP, hP, hPj⟩, ⟨hLG, hcG, hG, hGj⟩, ⟨hLT, hcT, hT⟩, ⟨hpg, hpt, hgt⟩, hPG, hPT, hGT⟩ := id hCL
  obtain ⟨⟨moP, hlP⟩, -⟩ := id hLP
  obtain ⟨⟨moG, hlG⟩, -⟩ := id hLG
  obtain ⟨⟨moT, hlT⟩, -⟩ := id hLT
  refine lv_aload_n hx hb dX7_meanPrice_0 rfl (lv_at hl 0 rfl) ?_
  refine gf_X7_51 hx hb hts hown hK hH hx0 rfl dX7_meanPrice_1 ?_
  refine lv_lconst (v := 0) hx hb dX7_meanPrice_4 (by decide) ?_
  refine W.lcmp hx hb dX7_meanPrice_5 ?_
  refine lv_if_ne (tgt := 19) hx hb dX7_meanPrice_6 (by decide) (fun c2 => ?_) (fun c2 => ?_)
  · refine lv_aload_n hx hb dX7_meanPrice_19 rfl (lv_at hl 0 rfl) ?_
    refine gf_X7_54 hx hb hts hown hK hH hx0 rfl dX7_meanPrice_20 ?_
    refine lv_l2d hx hb dX7_meanPrice_23 ?_
    refine lv_aload_n hx hb dX7_meanPrice_24 rfl (lv_at hl 0 rfl) ?_
    refine gf_X7_51 hx hb hts hown hK hH hx0 rfl dX7_meanPrice_25 ?_
    refine lv_l2d hx hb dX7_meanPrice_28 ?_
    refine lv_ddiv hx hb dX7_meanPrice_29 (by rw [hso, dl_ld (by omega)]; exact nan64 (dl_all (Nat.pos_of_ne_zero (fun z => c2 (m_cmp.mpr (by rw [hso, z]; rfl)))) (by omega) _ (dl_num _))) ?_
    exact vx_ret (hm_dret hx hb hr hlocks hS hH (⟨by rw [decide_eq_true (Nat.pos_of_ne_zero (fun z => c2 (m_cmp.mpr (by rw [hso, z]; rfl))))]; rfl, by rw [hso, dl_ld (by omega)], hC, hm_kd.rf⟩) (Nat.le_of_ble_eq_true rfl) (Nat.le_of_ble_eq_true rfl) dX7_meanPrice_30)
  · exact hm_thr hx hb hst hml hl.1 hown q4_89 q1_28 (text := "no hint was sold") (by decide) xA_AR (by decide +kernel) hts hK hO hS hH dX7_meanPrice_9 dX7_meanPrice_12 dX7_meanPrice_13 dX7_meanPrice_15 dX7_meanPrice_18 hout hlocks (by have hb0 : decide (0 < nt) = false := decide_eq_false (by have h_ := (lN_eq0 (a := nt) (by omega)).mp (by rw [← hso]; exact m_cmp.mp c2); omega); exact ⟨by rw [hb0]; exact (show (1 : Int32) ≠ 0 by decide), by rw [hb0]; exact (Or.inl ⟨rfl, rfl⟩), hC, hm_kd.rf⟩) (Nat.le_of_ble_eq_true rfl) (Nat.le_of_ble_eq_true rfl) (Nat.le_of_ble_eq_true rfl) (Nat.le_of_ble_eq_true rfl) (Nat.le_of_ble_eq_true rfl) (Nat.le_of_ble_eq_true rfl)

