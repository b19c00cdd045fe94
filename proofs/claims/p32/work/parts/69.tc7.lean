/-! TileWarden: judge, isSound, what is only told -/
theorem kX_sub {a b : List Nat} (h : ∀ x ∈ a, x ∈ b) {k : Nat} (hk : kX b k = true) : kX a k = true := by
  unfold kX at *
  cases hq : a.contains k with
  | false => rfl
  | true =>
    exfalso
    have h1 : k ∈ b := h k (List.contains_iff_mem.mp hq)
    rw [List.contains_iff_mem.mpr h1] at hk
    cases hk
set_option maxHeartbeats 4000000 in
set_option maxRecDepth 100000 in
theorem t_X7_judge (Γ : Gm) (l : Launch) (x0 : Nat) (mf : Nat → Int32) (E : Nat → EV) (cn us : Int32) (so sh sm : Int64) (np : Nat) (mon : Nat → Int32) (ng : Nat) (gs : Nat → GS) (nt : Nat) (ts : Nat → TR) (lim : Int32) (rf sp : Int64) (rr : Nat) (v0 : Int32) (f : Hm) (hst : l.stackTraces = false) (hC : CW Γ f x0 mf E cn us so sh sm np mon ng gs nt ts lim rf sp rr) (hnp : np ≤ 4) (hng : ng ≤ 8) (hnt : nt ≤ 60) (hr1 : 1 ≤ rr) (hrr : rr ≤ 64) (hgs : GOK np ng gs) : Cx Γ l yX7_judge cX7_judge 3 (some .int) 6 2 12 [.ref x0, .int v0] f (cP (if inB v0 (nI ng) then (if (!(gs (ix v0)).2.2.2.2.2.2.2.2) then 0 else 2) else 1) ((if (gs (ix v0)).2.2.2.2.2.2.1 < lim then (-1) else (gs (ix v0)).2.2.2.2.2.2.2.1)) Γ f (fun f' => CW Γ f' x0 mf ((if (gs (ix v0)).2.2.2.2.2.2.1 < lim then E else (unpK E (ix v0)))) cn us so sh sm np ((if (gs (ix v0)).2.2.2.2.2.2.1 < lim then mon else (upd mon (gs (ix v0)).1 (mon (gs (ix v0)).1 + (gs (ix v0)).2.2.2.2.2.2.2.1)))) ng ((if (gs (ix v0)).2.2.2.2.2.2.1 < lim then gs else (setG gs (ix v0) ((gs (ix v0)).1, (gs (ix v0)).2.1, (gs (ix v0)).2.2.1, (gs (ix v0)).2.2.2.1, (gs (ix v0)).2.2.2.2.1, (gs (ix v0)).2.2.2.2.2.1, (gs (ix v0)).2.2.2.2.2.2.1, (gs (ix v0)).2.2.2.2.2.2.2.1, true)))) nt ts lim ((if (gs (ix v0)).2.2.2.2.2.2.1 < lim then rf else (rf + (gs (ix v0)).2.2.2.2.2.2.2.1.toInt64))) sp rr)) (cY [("java/lang/IndexOutOfBoundsException", 1), ("java/lang/UnsupportedOperationException", 2)] (if inB v0 (nI ng) then (if (!(gs (ix v0)).2.2.2.2.2.2.2.2) then 0 else 2) else 1) Γ f (fun f' => CW Γ f' x0 mf E cn us so sh sm np mon ng gs nt ts lim rf sp rr)) := by
  refine Cx_of (by decide +kernel) (Nat.le_of_ble_eq_true rfl) ?_
  intro p e s m args below meth c hx hb hr hml hown hin hlocks hout hts hH hO hK ls hl
  have hl0 := hl
  have hl : lv_has ls 3 [(0, .ref x0), (1, .int v0)] := hl
  have hS : va_S (gA Γ) s.heap s.heap [] := va_S.rf
  obtain ⟨lp, lg, lt, ca, tr, pl, hCL, hCD⟩ := id hC
  obtain ⟨hx0, aP, cp_, P, aG, cg_, G, aT, ct_, T, ⟨hLP, hcP, hP, hPj⟩, ⟨hLG, hcG, hG, hGj⟩, ⟨hLT, hcT, hT⟩, ⟨hpg, hpt, hgt⟩, hPG, hPT, hGT⟩ := id hCL
  obtain ⟨⟨moP, hlP⟩, -⟩ := id hLP
  obtain ⟨⟨moG, hlG⟩, -⟩ := id hLG
  obtain ⟨⟨moT, hlT⟩, -⟩ := id hLT
  have h34 := hm_c34 hK
  obtain ⟨sl, en, ca1, sl1, en1, E1, cn1, rm1, us1, u1, u2, u3, ca2, sl2, hCA, hCA1, htr, hPL, ⟨hca1, hca2, hca12, htrpl⟩, hdis⟩ := id hCD
  refine lv_aload_n hx hb dX7_judge_0 rfl (lv_at hl 0 rfl) ?_
  refine lv_iload_n hx hb dX7_judge_1 rfl (lv_at hl 1 rfl) ?_
  refine hm_xV (rest := []) (k := 4) q3_80 q3_82 q1_1 q3_83 q0_5 rfl nm_X7_findGame rfl hx hb hml hown hts hK hO hS hH hl.1 hx0 hout hlocks (c_findGame Γ l x0 lp lg lt ca tr pl lim rf so sp sh sm aG cg_ ng G v0 f hst hx0 hLG (by omega) (by omega) (fun i hi => ⟨_, hG i hi⟩)) (fun E f' h_ => by obtain ⟨rfl, hno, rfl⟩ := h_; have hb0 := inB_no (by omega) hno; exact ⟨by rw [hb0]; exact (show (1 : Int32) ≠ 0 by decide), by rw [hb0]; exact (Or.inl ⟨rfl, rfl⟩), hC, hm_kd.rf⟩) ⟨Nat.le_of_ble_eq_true rfl, Nat.le_of_ble_eq_true rfl⟩ ⟨Nat.le_of_ble_eq_true rfl, Nat.le_of_ble_eq_true rfl⟩ ⟨Nat.le_of_ble_eq_true rfl, Nat.le_of_ble_eq_true rfl⟩ rfl (Nat.le_of_ble_eq_true rfl) dX7_judge_2 (fun v_ f_ H locs hp_ hH hS => ?_)
  obtain ⟨i, hi, rfl, rfl, ef_⟩ := hp_
  rw [ef_] at hH
  clear ef_
  refine W.eq (g2 := F0 m 5 ls [.ref ((G i))]) rfl ?_
  have hb1 := inB_yes (n := ng) (by omega) hi
  have hix : ix (nI i) = i := ix_nI (by omega)
  have hGi := hG i hi
  obtain ⟨hgo, hgw, hgz⟩ := hgs i hi
  have hi8 : i < 8 := by omega
  have ht31 : tl 31 (gs i).2.1 := tl31 (by omega)
  refine lv_astore_n (lv' := [(2, .ref ((G i))), (0, .ref x0), (1, .int (nI i))]) hx hb dX7_judge_5 rfl hl (by decide) rfl (fun ls hl => ?_)
  refine lv_aload_n hx hb dX7_judge_6 rfl (lv_at hl 0 rfl) ?_
  refine gf_X7_108 hx hb hts hown hK hH hGi rfl dX7_judge_7 ?_
  refine lv_if_eq (tgt := 23) hx hb dX7_judge_10 (by decide) (fun c1 => ?_) (fun c1 => ?_)
  · have hb3 : (!(gs i).2.2.2.2.2.2.2.2) = true := by rw [bI_0.mp c1]; rfl
    refine lv_aload_n hx hb dX7_judge_23 rfl (lv_at hl 0 rfl) ?_
    refine gf_X7_230 hx hb hts hown hK hH hGi rfl dX7_judge_24 ?_
    refine lv_aload_n hx hb dX7_judge_27 rfl (lv_at hl 1 rfl) ?_
    refine gf_X7_43 hx hb hts hown hK hH hx0 rfl dX7_judge_28 ?_
    refine lv_icmp_ge (tgt := 36) hx hb dX7_judge_31 (by decide) (fun c2 => ?_) (fun c2 => ?_)
    · have hlt : ¬ (gs i).2.2.2.2.2.2.1 < lim := Int32.not_lt.mpr c2
      refine lv_aload_n hx hb dX7_judge_36 rfl (lv_at hl 0 rfl) ?_
      refine lv_iconst (v := 1) hx hb dX7_judge_37 (by decide) ?_
      refine pf_X7_108 hx hb hts hown hK hO hS hH hGi rfl (Nat.le_of_ble_eq_true rfl) rfl dX7_judge_38 (fun H locs hH hS => ?_)
      obtain ⟨f3, ef3⟩ : ∃ zz_, zz_ = hm_up f ((G i)) (eR 3 [.ref ((P (gs i).1)), .int ((1 <<< (nI i &&& 31))), .long (b5 (gs i).2.1), .int (nI (gs i).2.2.1), .int ((gs i).2.2.2.1), .int ((gs i).2.2.2.2.1), .int ((gs i).2.2.2.2.2.1), .int ((gs i).2.2.2.2.2.2.1), .int ((gs i).2.2.2.2.2.2.2.1), .int 1]) := ⟨_, rfl⟩
      have hH : hm_H Γ f3 H := by rw [ef3]; exact hH
      have h4 : f3 ((G i)) = some (eR 3 [.ref ((P (gs i).1)), .int ((1 <<< (nI i &&& 31))), .long (b5 (gs i).2.1), .int (nI (gs i).2.2.1), .int ((gs i).2.2.2.1), .int ((gs i).2.2.2.2.1), .int ((gs i).2.2.2.2.2.1), .int ((gs i).2.2.2.2.2.2.1), .int ((gs i).2.2.2.2.2.2.2.1), .int 1]) := by rw [ef3]; exact hm_us
      have h5 : f3 x0 = some (eR 7 [.ref lp, .ref lg, .ref lt, .ref ca, .ref tr, .ref pl, .int lim, .long rf, .long so, .long sp, .long sh, .long sm]) := by rw [ef3]; exact (hm_un (hm_ne hx0 hGi (fun q => by injection q with q; injection q with q; cases q))).trans hx0
      have h6 : f3 lp = some (eR 0 [.int moP, .ref aP, .int (nI np)]) := by rw [ef3]; exact (hm_un (hm_ne hlP hGi (fun q => by injection q with q; injection q with q; cases q))).trans hlP
      have h7 : f3 lg = some (eR 0 [.int moG, .ref aG, .int (nI ng)]) := by rw [ef3]; exact (hm_un (hm_ne hlG hGi (fun q => by injection q with q; injection q with q; cases q))).trans hlG
      have h8 : f3 lt = some (eR 0 [.int moT, .ref aT, .int (nI nt)]) := by rw [ef3]; exact (hm_un (hm_ne hlT hGi (fun q => by injection q with q; injection q with q; cases q))).trans hlT
      have kd9 : hm_kd (kX [3]) Γ f f3 := (by rw [ef3]; exact hm_kd.up hGi rfl)
      refine lv_aload_n hx hb dX7_judge_41 rfl (lv_at hl 1 rfl) ?_
      refine gf_X7_27 hx hb hts hown hK hH h5 rfl dX7_judge_42 ?_
      refine lv_aload_n hx hb dX7_judge_45 rfl (lv_at hl 0 rfl) ?_
      refine gf_X7_221 hx hb hts hown hK hH h4 rfl dX7_judge_46 ?_
      have hfg : hm_fr (fun q => q = G i) f f3 := by rw [ef3]; exact hm_fr.rf.up rfl
      have hnG : ∀ b ci fs, f b = some (eR ci fs) → ci ≠ 3 → ¬ b = G i := fun b ci fs hb h3 => r_ne hb hGi h3
      have hCAg : CA Γ f3 ca sl 64 en E cn (nI rr) us := hCA.kept hfg (hnG _ _ _ hCA.1 (by decide)) (by obtain ⟨g_, hg_, -⟩ := hCA.2.1; exact a_ne hg_ hGi) (fun j hj => hnG _ _ _ (hCA.2.2.1 j hj) (by decide))
      have hCA1g : CA Γ f3 ca1 sl1 64 en1 E1 cn1 rm1 us1 := hCA1.kept hfg (hnG _ _ _ hCA1.1 (by decide)) (by obtain ⟨g_, hg_, -⟩ := hCA1.2.1; exact a_ne hg_ hGi) (fun j hj => hnG _ _ _ (hCA1.2.2.1 j hj) (by decide))
      have htrg : f3 tr = some (eR 5 [.ref ca1, .int u1, .int u2, .int u3]) := (hfg _ (hnG _ _ _ htr (by decide))).trans htr
      have hPLg : PLN Γ f3 pl ca2 sl2 := by obtain ⟨⟨pa, hp_⟩, ⟨pc, hc_⟩, -⟩ := hPL.opn; exact hPL.kept hfg (hnG _ _ _ hp_ (by decide)) (hnG _ _ _ hc_ (by decide)) (fun x hx => a_ne hx hGi)
      have h10 : f3 (P (gs i).1) = some (eR 4 [.int (nI (gs i).1), .int (mf (gs i).1), .int (mon (gs i).1)]) := kd9 _ _ (hP _ hgo) rfl
      refine hm_callV (rest := []) (k := 1) q4_156 q4_157 q1_5 q4_159 q4_158 rfl nm_X1_takePins rfl hx hb hml hown hts hK hO hS hH hl.1 (hCAg).1 (c_X1_takePins Γ l (1 <<< (nI i &&& 31)) ca sl 64 en E cn (nI rr) us f3 hCAg (by decide)) ⟨Nat.le_of_ble_eq_true rfl, Nat.le_of_ble_eq_true rfl⟩ ⟨Nat.le_of_ble_eq_true rfl, Nat.le_of_ble_eq_true rfl⟩ rfl (Nat.le_of_ble_eq_true rfl) dX7_judge_49 (fun v_ f4_ H locs hp_ hH hS => ?_)
      obtain ⟨rfl, hCA4, hfr4⟩ := hp_
      refine W.eq (g2 := F0 m 52 ls []) rfl ?_
      have h11 : f4_ x0 = some (eR 7 [.ref lp, .ref lg, .ref lt, .ref ca, .ref tr, .ref pl, .int lim, .long rf, .long so, .long sp, .long sh, .long sm]) := (hfr4 _ (cS_not hCAg h5 (by decide) (by decide))).trans h5
      have h12 : f4_ ((G i)) = some (eR 3 [.ref ((P (gs i).1)), .int ((1 <<< (nI i &&& 31))), .long (b5 (gs i).2.1), .int (nI (gs i).2.2.1), .int ((gs i).2.2.2.1), .int ((gs i).2.2.2.2.1), .int ((gs i).2.2.2.2.2.1), .int ((gs i).2.2.2.2.2.2.1), .int ((gs i).2.2.2.2.2.2.2.1), .int 1]) := (hfr4 _ (cS_not hCAg h4 (by decide) (by decide))).trans h4
      have h13 : f4_ ((P (gs i).1)) = some (eR 4 [.int ((nI (gs i).1)), .int ((mf (gs i).1)), .int ((mon (gs i).1))]) := (hfr4 _ (cS_not hCAg h10 (by decide) (by decide))).trans h10
      have ⟨hCA14, htr4, hPL4, hk4⟩ := CD.own hCAg hCA1g htrg hPLg hca1 hca2 hdis hfr4
      have hkJ : hm_kd (kX [1, 2, 3]) Γ f f4_ := (hm_kd.mono kd9 (fun k hk => kX_sub (by decide) hk)).tr (hm_kd.mono hk4 (fun k hk => kX_sub (by decide) hk))
      have hGo : ∀ j, j < ng → j ≠ i → f4_ (G j) = some (gx P j (gs j)) := fun j hj hji => hk4 _ _ (by rw [ef3]; exact (hm_un (fun z => hji (hGj j i hj hi z))).trans (hG j hj)) rfl
      refine lv_aload_n hx hb dX7_judge_52 rfl (lv_at hl 0 rfl) ?_
      refine gf_X7_168 hx hb hts hown hK hH h12 rfl dX7_judge_53 ?_
      refine lv_dup hx hb dX7_judge_56 rfl ?_
      refine gf_X7_172 hx hb hts hown hK hH h13 rfl dX7_judge_57 ?_
      refine lv_aload_n hx hb dX7_judge_60 rfl (lv_at hl 0 rfl) ?_
      refine gf_X7_237 hx hb hts hown hK hH h12 rfl dX7_judge_61 ?_
      refine lv_iadd hx hb dX7_judge_64 ?_
      refine lv_topi (fun v14 ev14 => ?_)
      replace ev14 : v14 = (mon (gs i).1 + (gs i).2.2.2.2.2.2.2.1) := ev14.trans (rfl)
      subst ev14
      refine pf_X7_172 hx hb hts hown hK hO hS hH h13 rfl (Nat.le_of_ble_eq_true rfl) rfl dX7_judge_65 (fun H locs hH hS => ?_)
      obtain ⟨f15, ef15⟩ : ∃ zz_, zz_ = hm_up f4_ ((P (gs i).1)) (eR 4 [.int ((nI (gs i).1)), .int ((mf (gs i).1)), .int ((mon (gs i).1 + (gs i).2.2.2.2.2.2.2.1))]) := ⟨_, rfl⟩
      have hH : hm_H Γ f15 H := by rw [ef15]; exact hH
      have h16 : f15 ((P (gs i).1)) = some (eR 4 [.int ((nI (gs i).1)), .int ((mf (gs i).1)), .int ((mon (gs i).1 + (gs i).2.2.2.2.2.2.2.1))]) := by rw [ef15]; exact hm_us
      have h17 : f15 x0 = some (eR 7 [.ref lp, .ref lg, .ref lt, .ref ca, .ref tr, .ref pl, .int lim, .long rf, .long so, .long sp, .long sh, .long sm]) := by rw [ef15]; exact (hm_un (hm_ne h11 h13 (fun q => by injection q with q; injection q with q; cases q))).trans h11
      have h18 : f15 ((G i)) = some (eR 3 [.ref ((P (gs i).1)), .int ((1 <<< (nI i &&& 31))), .long (b5 (gs i).2.1), .int (nI (gs i).2.2.1), .int ((gs i).2.2.2.1), .int ((gs i).2.2.2.2.1), .int ((gs i).2.2.2.2.2.1), .int ((gs i).2.2.2.2.2.2.1), .int ((gs i).2.2.2.2.2.2.2.1), .int 1]) := by rw [ef15]; exact (hm_un (hm_ne h12 h13 (fun q => by injection q with q; injection q with q; cases q))).trans h12
      have kd19 : hm_kd (kX [4, 7]) Γ f4_ f15 := (by rw [ef15]; exact hm_kd.up h13 rfl)
      have hPo : ∀ j, j < np → j ≠ (gs i).1 → f15 (P j) = some (eR 4 [.int (nI j), .int (mf j), .int (mon j)]) := fun j hj hji => by rw [ef15]; exact (hm_un (fun z => hji (hPj j _ hj hgo z))).trans (hkJ _ _ (hP j hj) rfl)
      have hxp9 := h17
      refine lv_aload_n hx hb dX7_judge_68 rfl (lv_at hl 1 rfl) ?_
      refine lv_dup hx hb dX7_judge_69 rfl ?_
      refine gf_X7_47 hx hb hts hown hK hH h17 rfl dX7_judge_70 ?_
      refine lv_aload_n hx hb dX7_judge_73 rfl (lv_at hl 0 rfl) ?_
      refine gf_X7_237 hx hb hts hown hK hH h18 rfl dX7_judge_74 ?_
      refine lv_i2l hx hb dX7_judge_77 rfl ?_
      refine lv_topl (fun v20 ev20 => ?_)
      replace ev20 : v20 = ((gs i).2.2.2.2.2.2.2.1.toInt64) := ev20.trans (rfl)
      subst ev20
      refine lv_ladd hx hb dX7_judge_78 ?_
      refine lv_topl (fun v21 ev21 => ?_)
      replace ev21 : v21 = (rf + (gs i).2.2.2.2.2.2.2.1.toInt64) := ev21.trans (rfl)
      subst ev21
      refine pf_X7_47 hx hb hts hown hK hO hS hH h17 rfl (Nat.le_of_ble_eq_true rfl) rfl dX7_judge_79 (fun H locs hH hS => ?_)
      obtain ⟨f22, ef22⟩ : ∃ zz_, zz_ = hm_up f15 x0 (eR 7 [.ref lp, .ref lg, .ref lt, .ref ca, .ref tr, .ref pl, .int lim, .long ((rf + (gs i).2.2.2.2.2.2.2.1.toInt64)), .long so, .long sp, .long sh, .long sm]) := ⟨_, rfl⟩
      have hH : hm_H Γ f22 H := by rw [ef22]; exact hH
      have h23 : f22 x0 = some (eR 7 [.ref lp, .ref lg, .ref lt, .ref ca, .ref tr, .ref pl, .int lim, .long ((rf + (gs i).2.2.2.2.2.2.2.1.toInt64)), .long so, .long sp, .long sh, .long sm]) := by rw [ef22]; exact hm_us
      have h24 : f22 ((G i)) = some (eR 3 [.ref ((P (gs i).1)), .int ((1 <<< (nI i &&& 31))), .long (b5 (gs i).2.1), .int (nI (gs i).2.2.1), .int ((gs i).2.2.2.1), .int ((gs i).2.2.2.2.1), .int ((gs i).2.2.2.2.2.1), .int ((gs i).2.2.2.2.2.2.1), .int ((gs i).2.2.2.2.2.2.2.1), .int 1]) := by rw [ef22]; exact (hm_un (hm_ne h18 h17 (fun q => by injection q with q; injection q with q; cases q))).trans h18
      have h25 : f22 ((P (gs i).1)) = some (eR 4 [.int ((nI (gs i).1)), .int ((mf (gs i).1)), .int ((mon (gs i).1 + (gs i).2.2.2.2.2.2.2.1))]) := by rw [ef22]; exact (hm_un (hm_ne h16 h17 (fun q => by injection q with q; injection q with q; cases q))).trans h16
      have kd26 : hm_kd (kX [4, 7]) Γ f4_ f22 := kd19.tr (by rw [ef22]; exact hm_kd.up h17 rfl)
      have hPz : ∀ j, j < np → j ≠ (gs i).1 → f22 (P j) = some (eR 4 [.int (nI j), .int (mf j), .int (mon j)]) := fun j hj hji => by rw [ef22]; exact (hm_un (r_ne (hPo j hj hji) hxp9 (by decide))).trans (hPo j hj hji)
      refine lv_aload_n hx hb dX7_judge_82 rfl (lv_at hl 0 rfl) ?_
      refine gf_X7_237 hx hb hts hown hK hH h24 rfl dX7_judge_83 ?_
      subst ef22
      subst ef15
      exact vx_ret (hm_iret hx hb hr hlocks hS hH (⟨by rw [hb1]; (try rw [hix]); rw [hb3]; rfl, by rw [hix, if_neg hlt], (by rw [hix]; simp only [if_neg hlt]; exact ⟨lp, lg, lt, ca, tr, pl, ⟨h23, aP, cp_, P, aG, cg_, G, aT, ct_, T, ⟨((hLP.kps h34 rfl rfl hkJ).kps h34 rfl rfl kd26), hcP, fun j hj => by { by_cases e : j = (gs i).1; (subst e; rw [updI_s]; exact h25); (rw [updI_n e]; exact hPz j hj e) }, hPj⟩, ⟨((hLG.kps h34 rfl rfl hkJ).kps h34 rfl rfl kd26), hcG, fun j hj => by { by_cases e : j = i; (subst e; rw [setG_s]; exact h24); (rw [setG_n e]; exact kd26 _ _ (hGo j hj e) rfl) }, hGj⟩, ⟨((hLT.kps h34 rfl rfl hkJ).kps h34 rfl rfl kd26), hcT, fun j hj => kd26 _ _ (hkJ _ _ (hT j hj) rfl) rfl⟩, ⟨hpg, hpt, hgt⟩, hPG, hPT, hGT⟩, CD.kpt ⟨sl, en, ca1, sl1, en1, E1, cn1, rm1, us1, u1, u2, u3, ca2, sl2, hCA4, hCA14, htr4, hPL4, ⟨hca1, hca2, hca12, htrpl⟩, hdis⟩ (kX_D kd26 rfl rfl rfl rfl)⟩), (kX_M hkJ rfl rfl).tr (kX_M kd26 rfl rfl)⟩) (Nat.le_of_ble_eq_true rfl) (Nat.le_of_ble_eq_true rfl) dX7_judge_86)
    · have hlt : (gs i).2.2.2.2.2.2.1 < lim := Int32.not_le.mp c2
      refine lv_iconst (v := (-1)) hx hb dX7_judge_34 (by decide) ?_
      exact vx_ret (hm_iret hx hb hr hlocks hS hH (⟨by rw [hb1]; (try rw [hix]); rw [hb3]; rfl, by rw [hix, if_pos hlt], (by rw [hix]; simp only [if_pos hlt]; exact hC), hm_kd.rf⟩) (Nat.le_of_ble_eq_true rfl) (Nat.le_of_ble_eq_true rfl) dX7_judge_35)
  · exact hm_thr hx hb hst hml hl.1 hown q3_110 q1_25 (text := "the game is void already") (by decide) xA_UO (by decide +kernel) hts hK hO hS hH dX7_judge_13 dX7_judge_16 dX7_judge_17 dX7_judge_19 dX7_judge_22 hout hlocks (by have hb0 : (!(gs i).2.2.2.2.2.2.2.2) = false := (by rw [bI_n.mp c1]; rfl); exact ⟨by rw [hb1]; (try rw [hix]); rw [hb0]; exact (show (2 : Int32) ≠ 0 by decide), by rw [hb1]; (try rw [hix]); rw [hb0]; exact (Or.inr (Or.inl ⟨rfl, rfl⟩)), hC, hm_kd.rf⟩) (Nat.le_of_ble_eq_true rfl) (Nat.le_of_ble_eq_true rfl) (Nat.le_of_ble_eq_true rfl) (Nat.le_of_ble_eq_true rfl) (Nat.le_of_ble_eq_true rfl) (Nat.le_of_ble_eq_true rfl)
