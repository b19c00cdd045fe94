/-! TileWarden: addPlayer, open -/
theorem up_s {P : Nat → Nat} {n q : Nat} : va_up P n q n = q := if_pos rfl
theorem up_n {P : Nat → Nat} {n q j : Nat} (h : j ≠ n) : va_up P n q j = P j := if_neg h
theorem updI_s {g : Nat → Int32} {n : Nat} {x : Int32} : upd g n x n = x := if_pos rfl
theorem updI_n {g : Nat → Int32} {n j : Nat} {x : Int32} (h : j ≠ n) : upd g n x j = g j := if_neg h
theorem oL_not {Γ : Gm} {f : Hm} {a ar b mo : Nat} {x : Nat × List Value} {y : ClassId × vp_A} (ha : f a = some (.inr x)) (hb : f b = some (.inl y)) (h : b = ar → ¬ gB Γ ≤ ar) : ¬ oL Γ a ar b := by
  rintro (z | ⟨z, hz⟩)
  · exact hm_ne hb ha (fun q => by cases q) z
  · exact h z hz
theorem oL_no2 {Γ : Gm} {f : Hm} {a ar b : Nat} {y : ClassId × vp_A} {x : Nat × List Value} (hr : f ar = some (.inl y)) (hb : f b = some (.inr x)) (h : b ≠ a) : ¬ oL Γ a ar b := by
  rintro (z | ⟨z, _⟩)
  · exact h z
  · exact hm_ne hb hr (fun q => by cases q) z
theorem oL_kd {Γ : Gm} {f : Hm} {a ar n : Nat} {mo : Value} {vs : List Value} {g : Nat → Option Nat} (h34 : gC Γ 3 ≠ gC Γ 4) (ha : f a = some (eR 0 vs)) (hr : f ar = some (eO Γ n g)) : ∀ q e, oL Γ a ar q → f q = some e → kX [0, 100] (kd Γ e) = false := by
  rintro q e (z | ⟨z, _⟩) he
  · rw [z, ha] at he; injection he with he; rw [← he]; rfl
  · rw [z, hr] at he; injection he with he; rw [← he, kd_O h34]; rfl
set_option maxHeartbeats 4000000 in
set_option maxRecDepth 100000 in
theorem t_X7_addPlayer (Γ : Gm) (l : Launch) (x0 : Nat) (mf : Nat → Int32) (E : Nat → EV) (cn us : Int32) (so sh sm : Int64) (np : Nat) (mon : Nat → Int32) (ng : Nat) (gs : Nat → GS) (nt : Nat) (ts : Nat → TR) (lim : Int32) (rf sp : Int64) (rr : Nat) (v0 : Int32) (f : Hm) (hst : l.stackTraces = false) (hC : CW Γ f x0 mf E cn us so sh sm np mon ng gs nt ts lim rf sp rr) (hnp : np ≤ 4) (hng : ng ≤ 8) (hnt : nt ≤ 60) (hr1 : 1 ≤ rr) (hrr : rr ≤ 64) (hgs : GOK np ng gs) : Cx Γ l yX7_addPlayer cX7_addPlayer 2 (some .int) 7 2 100 [.ref x0, .int v0] f (cP (if inR v0 0 9999 then (if decide (np < 4) then 0 else 2) else 1) (nI np) Γ f (fun f' => CW Γ f' x0 ((upd mf np v0)) E cn us so sh sm ((np + 1)) ((upd mon np v0)) ng gs nt ts lim rf sp rr)) (cY [("java/lang/IllegalArgumentException", 1), ("java/lang/IllegalStateException", 2)] (if inR v0 0 9999 then (if decide (np < 4) then 0 else 2) else 1) Γ f (fun f' => CW Γ f' x0 mf E cn us so sh sm np mon ng gs nt ts lim rf sp rr)) := by
  refine Cx_of (by decide +kernel) (Nat.le_of_ble_eq_true rfl) ?_
  intro p e s m args below meth c hx hb hr hml hown hin hlocks hout hts hH hO hK ls hl
  have hl0 := hl
  have hl : lv_has ls 2 [(0, .ref x0), (1, .int v0)] := hl
  have hS : va_S (gA Γ) s.heap s.heap [] := va_S.rf
  obtain ⟨lp, lg, lt, ca, tr, pl, hCL, hCD⟩ := id hC
  obtain ⟨hx0, aP, cp_, P, aG, cg_, G, aT, ct_, T, ⟨hLP, hcP, hP, hPj⟩, ⟨hLG, hcG, hG, hGj⟩, ⟨hLT, hcT, hT⟩, ⟨hpg, hpt, hgt⟩, hPG, hPT, hGT⟩ := id hCL
  obtain ⟨⟨moP, hlP⟩, -⟩ := id hLP
  obtain ⟨⟨moG, hlG⟩, -⟩ := id hLG
  obtain ⟨⟨moT, hlT⟩, -⟩ := id hLT
  have h34 := hm_c34 hK
  refine lv_iload_n hx hb dX7_addPlayer_0 rfl (lv_at hl 1 rfl) ?_
  refine lv_if_lt (tgt := 11) hx hb dX7_addPlayer_1 (by decide) (fun c1 => ?_) (fun c1 => ?_)
  · exact hm_thr hx hb hst hml hl.1 hown q2_8 q1_12 (text := "the money is out of range") (by decide) xA_IA (by decide +kernel) hts hK hO hS hH dX7_addPlayer_11 dX7_addPlayer_14 dX7_addPlayer_15 dX7_addPlayer_17 dX7_addPlayer_20 hout hlocks (by have hb0 : inR v0 0 9999 = false := (by unfold inR; rw [decide_eq_false (Int32.not_le.mpr c1)]; rfl); exact ⟨by rw [hb0]; exact (show (1 : Int32) ≠ 0 by decide), by rw [hb0]; exact (Or.inl ⟨rfl, rfl⟩), hC, hm_kd.rf⟩) (Nat.le_of_ble_eq_true rfl) (Nat.le_of_ble_eq_true rfl) (Nat.le_of_ble_eq_true rfl) (Nat.le_of_ble_eq_true rfl) (Nat.le_of_ble_eq_true rfl) (Nat.le_of_ble_eq_true rfl)
  · refine lv_iload_n hx hb dX7_addPlayer_4 rfl (lv_at hl 1 rfl) ?_
    refine lv_sipush (v := 9999) hx hb dX7_addPlayer_5 (by decide) ?_
    refine lv_icmp_le (tgt := 21) hx hb dX7_addPlayer_8 (by decide) (fun c2 => ?_) (fun c2 => ?_)
    · have hb1 : inR v0 0 9999 = true := by unfold inR; rw [decide_eq_true (Int32.not_lt.mp c1), decide_eq_true c2]; rfl
      refine lv_aload_n hx hb dX7_addPlayer_21 rfl (lv_at hl 0 rfl) ?_
      refine gf_X7_10 hx hb hts hown hK hH hx0 rfl dX7_addPlayer_22 ?_
      refine hm_callV (rest := []) (k := 1) q1_210 q1_211 q1_4 q1_213 q1_212 rfl nm_Jx4a65c_size_8abf5 rfl hx hb hml hown hts hK hO hS hH hl.1 hlP (c_size Γ l lp aP cp_ np P f hLP) ⟨Nat.le_of_ble_eq_true rfl, Nat.le_of_ble_eq_true rfl⟩ ⟨Nat.le_of_ble_eq_true rfl, Nat.le_of_ble_eq_true rfl⟩ rfl (Nat.le_of_ble_eq_true rfl) dX7_addPlayer_25 (fun v_ f_ H locs hp_ hH hS => ?_)
      obtain ⟨rfl, ef_⟩ := hp_
      rw [ef_] at hH
      clear ef_
      refine W.eq (g2 := F0 m 28 ls [.int (nI np)]) rfl ?_
      refine lv_iconst (v := 4) hx hb dX7_addPlayer_28 (by decide) ?_
      refine lv_icmp_lt (tgt := 42) hx hb dX7_addPlayer_29 (by decide) (fun c3 => ?_) (fun c3 => ?_)
      · have hb2 : decide (np < 4) = true := decide_eq_true ((nI_ltI (by omega) (by decide)).mp c3)
        have hnp4 : np < 4 := of_decide_eq_true hb2
        refine lv_aload_n hx hb dX7_addPlayer_42 rfl (lv_at hl 0 rfl) ?_
        refine gf_X7_10 hx hb hts hown hK hH hx0 rfl dX7_addPlayer_43 ?_
        refine hm_new hx hb hts inX4 tyX4 tyX4_ok hown q2_96 q2_97 q1_14 hK hO hS hH (ci := 4) rfl (fs := [.int 0, .int 0, .int 0]) dfX4 (Nat.le_of_ble_eq_true rfl) (Nat.le_of_ble_eq_true rfl) dX7_addPlayer_46 (fun q4 H hH hn_q4 hb_q4 hS => ?_)
        obtain ⟨f5, ef5⟩ : ∃ zz_, zz_ = hm_up f q4 (eR 4 [.int 0, .int 0, .int 0]) := ⟨_, rfl⟩
        have hH : hm_H Γ f5 H := by rw [ef5]; exact hH
        have h6 : f5 q4 = some (eR 4 [.int 0, .int 0, .int 0]) := by rw [ef5]; exact hm_us
        have h7 : f5 x0 = some (eR 7 [.ref lp, .ref lg, .ref lt, .ref ca, .ref tr, .ref pl, .int lim, .long rf, .long so, .long sp, .long sh, .long sm]) := by rw [ef5]; exact (hm_un (hm_nn hx0 hn_q4)).trans hx0
        have h8 : f5 lp = some (eR 0 [.int moP, .ref aP, .int (nI np)]) := by rw [ef5]; exact (hm_un (hm_nn hlP hn_q4)).trans hlP
        have h9 : f5 lg = some (eR 0 [.int moG, .ref aG, .int (nI ng)]) := by rw [ef5]; exact (hm_un (hm_nn hlG hn_q4)).trans hlG
        have h10 : f5 lt = some (eR 0 [.int moT, .ref aT, .int (nI nt)]) := by rw [ef5]; exact (hm_un (hm_nn hlT hn_q4)).trans hlT
        have kd11 : hm_kd (kX []) Γ f f5 := (by rw [ef5]; exact hm_kd.upN hn_q4)
        refine lv_dup hx hb dX7_addPlayer_49 rfl ?_
        refine lv_aload_n hx hb dX7_addPlayer_50 rfl (lv_at hl 0 rfl) ?_
        refine gf_X7_10 hx hb hts hown hK hH h7 rfl dX7_addPlayer_51 ?_
        refine hm_callV (rest := [.ref q4, .ref q4, .ref lp]) (k := 1) q1_210 q1_211 q1_4 q1_213 q1_212 rfl nm_Jx4a65c_size_8abf5 rfl hx hb hml hown hts hK hO hS hH hl.1 h8 (c_size Γ l lp aP cp_ np P f5 (hLP.kps h34 rfl rfl (by rw [ef5]; exact (hm_kd.upN hn_q4 : hm_kd (kX []) Γ f _)))) ⟨Nat.le_of_ble_eq_true rfl, Nat.le_of_ble_eq_true rfl⟩ ⟨Nat.le_of_ble_eq_true rfl, Nat.le_of_ble_eq_true rfl⟩ rfl (Nat.le_of_ble_eq_true rfl) dX7_addPlayer_54 (fun v_ f_ H locs hp_ hH hS => ?_)
        obtain ⟨rfl, ef_⟩ := hp_
        rw [ef_] at hH
        clear ef_
        refine W.eq (g2 := F0 m 57 ls [.int (nI np), .ref q4, .ref q4, .ref lp]) rfl ?_
        refine lv_iload_n hx hb dX7_addPlayer_57 rfl (lv_at hl 1 rfl) ?_
        refine hm_callI (rest := [.ref q4, .ref lp]) (k := 1) q2_98 q2_99 q1_14 q2_100 nm_X4_init rfl rfl hx hb hml hown hts hK hO hS hH hl.1 (c_X4_init Γ l q4 0 0 0 (nI np) v0 f5 h6) ⟨Nat.le_of_ble_eq_true rfl, Nat.le_of_ble_eq_true rfl⟩ ⟨Nat.le_of_ble_eq_true rfl, Nat.le_of_ble_eq_true rfl⟩ rfl (Nat.le_of_ble_eq_true rfl) dX7_addPlayer_58 (fun v_ f2_ H locs hp_ hH hS => ?_)
        obtain ⟨rfl, ef2_⟩ := hp_
        refine W.eq (g2 := F0 m 61 ls [.ref q4, .ref lp]) rfl ?_
        have ef3_ : f2_ = hm_up f q4 (eR 4 [.int (nI np), .int v0, .int v0]) := by rw [ef2_, ef5, hm_uu]
        have hq0 : f q4 = none := hn_q4
        have hq2 : f2_ q4 = some (eR 4 [.int (nI np), .int v0, .int v0]) := by rw [ef3_]; exact hm_us
        have hkN : hm_kd (kX []) Γ f f2_ := by rw [ef3_]; exact hm_kd.upN hq0
        have h12 : f2_ x0 = some (eR 7 [.ref lp, .ref lg, .ref lt, .ref ca, .ref tr, .ref pl, .int lim, .long rf, .long so, .long sp, .long sh, .long sm]) := hkN _ _ hx0 rfl
        have h13 : f2_ lp = some (eR 0 [.int moP, .ref aP, .int (nI np)]) := hkN _ _ hlP rfl
        have h14 : f2_ lg = some (eR 0 [.int moG, .ref aG, .int (nI ng)]) := hkN _ _ hlG rfl
        have h15 : f2_ lt = some (eR 0 [.int moT, .ref aT, .int (nI nt)]) := hkN _ _ hlT rfl
        have hL2 := hLP.kps h34 rfl rfl hkN
        have hel2 : ∀ i, i < np → isO f2_ (P i) := fun i hi => ⟨4, _, (RX4, TX4, 3), hkN _ _ (hP i hi) rfl, rfl, by decide⟩
        have hxO : isO f2_ q4 := ⟨4, _, (RX4, TX4, 3), hq2, rfl, by decide⟩
        have hxa : q4 ≠ lp := hm_ne hq2 h13 (fun z => by injection z with z; injection z with z; cases z)
        obtain ⟨gA_, hgA_, -⟩ := hL2.2.1
        refine hm_callV (rest := []) (k := 6) q2_116 q2_117 q1_4 q2_119 q2_118 rfl nm_Jx4a65c_add_9ea2d rfl hx hb hml hown hts hK hO hS hH hl.1 h13 (c_add Γ l lp aP cp_ np P q4 f2_ hL2 (by omega) hcP hxO hxa hel2) ⟨Nat.le_of_ble_eq_true rfl, Nat.le_of_ble_eq_true rfl⟩ ⟨Nat.le_of_ble_eq_true rfl, Nat.le_of_ble_eq_true rfl⟩ rfl (Nat.le_of_ble_eq_true rfl) dX7_addPlayer_61 (fun v3_ f3_ H locs hp_ hH hS => ?_)
        obtain ⟨rfl, ar9, cap9, w1, w2, w3, w4⟩ := hp_
        refine W.eq (g2 := F0 m 64 ls [.int 1]) rfl ?_
        have hkA : hm_kd (kX [0, 100]) Γ f2_ f3_ := .ofk w2 (oL_kd (mo := .null) h34 h13 hgA_)
        have hkT : hm_kd (kX [0, 100]) Γ f f3_ := (hkN.mono (fun _ _ => rfl)).tr hkA
        obtain ⟨gG_, hgG_, -⟩ := hLG.2.1
        have hL3G := (hLG.kps h34 rfl rfl hkN).kp w2 (oL_no2 hgA_ (hkN _ _ hlG rfl) hpg.symm) (oL_not (mo := 0) h13 (hkN _ _ hgG_ (by rw [kd_O h34]; rfl)) (fun z => fun w => hPG z.symm w))
        obtain ⟨gT_, hgT_, -⟩ := hLT.2.1
        have hL3T := (hLT.kps h34 rfl rfl hkN).kp w2 (oL_no2 hgA_ (hkN _ _ hlT rfl) hpt.symm) (oL_not (mo := 0) h13 (hkN _ _ hgT_ (by rw [kd_O h34]; rfl)) (fun z => fun w => hPT z.symm w))
        have hx3 := hkT _ _ hx0 rfl
        obtain ⟨⟨mo9, hl9⟩, -⟩ := id w1
        have hnA : ∀ b y, f b = some (.inl y) → ar9 = b → (aP = b → ¬ gB Γ ≤ aP) → ¬ gB Γ ≤ ar9 := by
          intro b y hb hab hold
          rcases w3 with ⟨e1, -⟩ | e1
          · rw [e1]; exact hold (by rw [← e1]; exact hab)
          · exfalso
            have hbf : f2_ b = some (.inl y) := by rw [ef3_]; exact (hm_un (hm_nn hb hq0)).trans hb
            rw [hab] at e1; rw [e1] at hbf; cases hbf
        refine lv_pop hx hb dX7_addPlayer_64 rfl ?_
        refine lv_aload_n hx hb dX7_addPlayer_65 rfl (lv_at hl 0 rfl) ?_
        refine gf_X7_10 hx hb hts hown hK hH hx3 rfl dX7_addPlayer_66 ?_
        refine hm_callV (rest := []) (k := 1) q1_210 q1_211 q1_4 q1_213 q1_212 rfl nm_Jx4a65c_size_8abf5 rfl hx hb hml hown hts hK hO hS hH hl.1 hl9 (c_size Γ l lp ar9 cap9 (np + 1) (va_up P np q4) f3_ w1) ⟨Nat.le_of_ble_eq_true rfl, Nat.le_of_ble_eq_true rfl⟩ ⟨Nat.le_of_ble_eq_true rfl, Nat.le_of_ble_eq_true rfl⟩ rfl (Nat.le_of_ble_eq_true rfl) dX7_addPlayer_69 (fun v_ f_ H locs hp_ hH hS => ?_)
        obtain ⟨rfl, ef_⟩ := hp_
        rw [ef_] at hH
        clear ef_
        refine W.eq (g2 := F0 m 72 ls [.int (nI (np + 1))]) rfl ?_
        refine lv_iconst (v := 1) hx hb dX7_addPlayer_72 (by decide) ?_
        refine lv_isub hx hb dX7_addPlayer_73 ?_
        refine lv_topi (fun v16 ev16 => ?_)
        replace ev16 : v16 = nI np := ev16.trans (nI_pred np)
        subst ev16
        exact vx_ret (hm_iret hx hb hr hlocks hS hH (⟨by rw [hb1]; rw [hb2]; rfl, rfl, ⟨lp, lg, lt, ca, tr, pl, ⟨hx3, ar9, cap9, (va_up P np q4), aG, cg_, G, aT, ct_, T, ⟨w1, w4, fun j hj => by { by_cases e : j = np; (subst e; rw [up_s, updI_s, updI_s]; exact hkA _ _ hq2 rfl); (rw [up_n e, updI_n e, updI_n e]; exact hkT _ _ (hP j (by omega)) rfl) }, fun a b ha hb hab => by { by_cases e1 : a = np; (by_cases e2 : b = np; (rw [e1, e2]); (exfalso; rw [e1, up_s, up_n e2] at hab; exact hm_nn (hP b (by omega)) hq0 hab.symm)); (by_cases e2 : b = np; (exfalso; rw [e2, up_s, up_n e1] at hab; exact hm_nn (hP a (by omega)) hq0 hab); (rw [up_n e1, up_n e2] at hab; exact hPj a b (by omega) (by omega) hab)) }⟩, ⟨hL3G, hcG, fun j hj => by { have e_ : va_up P np q4 (gs j).1 = P (gs j).1 := up_n (by have := (hgs j hj).1; omega); show f3_ (G j) = some (eR 3 [.ref (va_up P np q4 (gs j).1), _, _, _, _, _, _, _, _, _]); rw [e_]; exact hkT _ _ (hG j hj) rfl }, hGj⟩, ⟨hL3T, hcT, fun j hj => hkT _ _ (hT j hj) rfl⟩, ⟨hpg, hpt, hgt⟩, (fun z => hnA _ _ hgG_ z hPG), (fun z => hnA _ _ hgT_ z hPT), hGT⟩, hCD.kpt (kX_D hkT rfl rfl rfl rfl)⟩, kX_M hkT rfl rfl⟩) (Nat.le_of_ble_eq_true rfl) (Nat.le_of_ble_eq_true rfl) dX7_addPlayer_74)
      · exact hm_thr hx hb hst hml hl.1 hown q2_80 q1_13 (text := "there is no place for another player") (by decide) xA_IS (by decide +kernel) hts hK hO hS hH dX7_addPlayer_32 dX7_addPlayer_35 dX7_addPlayer_36 dX7_addPlayer_38 dX7_addPlayer_41 hout hlocks (by have hb0 : decide (np < 4) = false := decide_eq_false (fun q => absurd (nI_lt q (by decide)) c3); exact ⟨by rw [hb1]; rw [hb0]; exact (show (2 : Int32) ≠ 0 by decide), by rw [hb1]; rw [hb0]; exact (Or.inr (Or.inl ⟨rfl, rfl⟩)), hC, hm_kd.rf⟩) (Nat.le_of_ble_eq_true rfl) (Nat.le_of_ble_eq_true rfl) (Nat.le_of_ble_eq_true rfl) (Nat.le_of_ble_eq_true rfl) (Nat.le_of_ble_eq_true rfl) (Nat.le_of_ble_eq_true rfl)
    · exact hm_thr hx hb hst hml hl.1 hown q2_8 q1_12 (text := "the money is out of range") (by decide) xA_IA (by decide +kernel) hts hK hO hS hH dX7_addPlayer_11 dX7_addPlayer_14 dX7_addPlayer_15 dX7_addPlayer_17 dX7_addPlayer_20 hout hlocks (by have hb0 : inR v0 0 9999 = false := (by unfold inR; rw [decide_eq_false (p := v0 ≤ 9999) c2, Bool.and_false]); exact ⟨by rw [hb0]; exact (show (1 : Int32) ≠ 0 by decide), by rw [hb0]; exact (Or.inl ⟨rfl, rfl⟩), hC, hm_kd.rf⟩) (Nat.le_of_ble_eq_true rfl) (Nat.le_of_ble_eq_true rfl) (Nat.le_of_ble_eq_true rfl) (Nat.le_of_ble_eq_true rfl) (Nat.le_of_ble_eq_true rfl) (Nat.le_of_ble_eq_true rfl)
set_option maxHeartbeats 4000000 in
set_option maxRecDepth 100000 in
theorem t_X7_open (Γ : Gm) (l : Launch) (x0 : Nat) (mf : Nat → Int32) (E : Nat → EV) (cn us : Int32) (so sh sm : Int64) (np : Nat) (mon : Nat → Int32) (ng : Nat) (gs : Nat → GS) (nt : Nat) (ts : Nat → TR) (lim : Int32) (rf sp : Int64) (rr : Nat) (v0 v1 : Int32) (f : Hm) (hst : l.stackTraces = false) (hC : CW Γ f x0 mf E cn us so sh sm np mon ng gs nt ts lim rf sp rr) (hnp : np ≤ 4) (hng : ng ≤ 8) (hnt : nt ≤ 60) (hr1 : 1 ≤ rr) (hrr : rr ≤ 64) (hgs : GOK np ng gs) : Cx Γ l yX7_open cX7_open 4 (some .int) 7 3 112 [.ref x0, .int v0, .int v1] f (cP (if inB v0 (nI np) then (if decide (0 ≤ v1) then (if decide (ng < 8) then 0 else 3) else 2) else 1) (nI ng) Γ f (fun f' => CW Γ f' x0 mf E cn us so sh sm np mon ((ng + 1)) ((setG gs ng (ix v0, newB (ix v1), newZ (ix v1), 0, 0, 0, 0, 0, false))) nt ts lim rf sp rr)) (cY [("java/lang/IndexOutOfBoundsException", 1), ("java/lang/IllegalArgumentException", 2), ("java/lang/IllegalStateException", 3)] (if inB v0 (nI np) then (if decide (0 ≤ v1) then (if decide (ng < 8) then 0 else 3) else 2) else 1) Γ f (fun f' => CW Γ f' x0 mf E cn us so sh sm np mon ng gs nt ts lim rf sp rr)) := by
  refine Cx_of (by decide +kernel) (Nat.le_of_ble_eq_true rfl) ?_
  intro p e s m args below meth c hx hb hr hml hown hin hlocks hout hts hH hO hK ls hl
  have hl0 := hl
  have hl : lv_has ls 4 [(0, .ref x0), (1, .int v0), (2, .int v1)] := hl
  have hS : va_S (gA Γ) s.heap s.heap [] := va_S.rf
  obtain ⟨lp, lg, lt, ca, tr, pl, hCL, hCD⟩ := id hC
  obtain ⟨hx0, aP, cp_, P, aG, cg_, G, aT, ct_, T, ⟨hLP, hcP, hP, hPj⟩, ⟨hLG, hcG, hG, hGj⟩, ⟨hLT, hcT, hT⟩, ⟨hpg, hpt, hgt⟩, hPG, hPT, hGT⟩ := id hCL
  obtain ⟨⟨moP, hlP⟩, -⟩ := id hLP
  obtain ⟨⟨moG, hlG⟩, -⟩ := id hLG
  obtain ⟨⟨moT, hlT⟩, -⟩ := id hLT
  have h34 := hm_c34 hK
  refine lv_aload_n hx hb dX7_open_0 rfl (lv_at hl 0 rfl) ?_
  refine lv_iload_n hx hb dX7_open_1 rfl (lv_at hl 1 rfl) ?_
  refine hm_xV (rest := []) (k := 4) q2_212 q2_214 q1_1 q2_215 q0_4 rfl nm_X7_findPlayer rfl hx hb hml hown hts hK hO hS hH hl.1 hx0 hout hlocks (c_findPlayer Γ l x0 lp lg lt ca tr pl lim rf so sp sh sm aP cp_ np P v0 f hst hx0 hLP (by omega) (by omega) (fun i hi => ⟨_, hP i hi⟩)) (fun E f' h_ => by obtain ⟨rfl, hno, rfl⟩ := h_; have hb0 := inB_no (by omega) hno; exact ⟨by rw [hb0]; exact (show (1 : Int32) ≠ 0 by decide), by rw [hb0]; exact (Or.inl ⟨rfl, rfl⟩), hC, hm_kd.rf⟩) ⟨Nat.le_of_ble_eq_true rfl, Nat.le_of_ble_eq_true rfl⟩ ⟨Nat.le_of_ble_eq_true rfl, Nat.le_of_ble_eq_true rfl⟩ ⟨Nat.le_of_ble_eq_true rfl, Nat.le_of_ble_eq_true rfl⟩ rfl (Nat.le_of_ble_eq_true rfl) dX7_open_2 (fun v_ f_ H locs hp_ hH hS => ?_)
  obtain ⟨i, hi, rfl, rfl, ef_⟩ := hp_
  rw [ef_] at hH
  clear ef_
  refine W.eq (g2 := F0 m 5 ls [.ref ((P i))]) rfl ?_
  have hb1 := inB_yes (n := np) (by omega) hi
  have hix : ix (nI i) = i := ix_nI (by omega)
  have hPi_ := hP i hi
  refine lv_astore_n (lv' := [(3, .ref ((P i))), (0, .ref x0), (1, .int (nI i)), (2, .int v1)]) hx hb dX7_open_5 rfl hl (by decide) rfl (fun ls hl => ?_)
  refine lv_iload_n hx hb dX7_open_6 rfl (lv_at hl 3 rfl) ?_
  refine lv_if_ge (tgt := 20) hx hb dX7_open_7 (by decide) (fun c1 => ?_) (fun c1 => ?_)
  · have hb2 : decide (0 ≤ v1) = true := decide_eq_true c1
    refine lv_aload_n hx hb dX7_open_20 rfl (lv_at hl 1 rfl) ?_
    refine gf_X7_16 hx hb hts hown hK hH hx0 rfl dX7_open_21 ?_
    refine hm_callV (rest := []) (k := 1) q1_210 q1_211 q1_4 q1_213 q1_212 rfl nm_Jx4a65c_size_8abf5 rfl hx hb hml hown hts hK hO hS hH hl.1 hlG (c_size Γ l lg aG cg_ ng G f hLG) ⟨Nat.le_of_ble_eq_true rfl, Nat.le_of_ble_eq_true rfl⟩ ⟨Nat.le_of_ble_eq_true rfl, Nat.le_of_ble_eq_true rfl⟩ rfl (Nat.le_of_ble_eq_true rfl) dX7_open_24 (fun v_ f_ H locs hp_ hH hS => ?_)
    obtain ⟨rfl, ef_⟩ := hp_
    rw [ef_] at hH
    clear ef_
    refine W.eq (g2 := F0 m 27 ls [.int (nI ng)]) rfl ?_
    refine lv_bipush (v := 8) hx hb dX7_open_27 (by decide) ?_
    refine lv_icmp_lt (tgt := 42) hx hb dX7_open_29 (by decide) (fun c2 => ?_) (fun c2 => ?_)
    · have hb3 : decide (ng < 8) = true := decide_eq_true ((nI_ltI (by omega) (by decide)).mp c2)
      have hng8 : ng < 8 := of_decide_eq_true hb3
      obtain ⟨z, hz, rfl⟩ := nI_of (Int32.not_lt.mpr c1)
      have hiz : ix (nI z) = z := ix_nI hz
      refine lv_aload_n hx hb dX7_open_42 rfl (lv_at hl 1 rfl) ?_
      refine gf_X7_16 hx hb hts hown hK hH hx0 rfl dX7_open_43 ?_
      refine hm_new hx hb hts inX3 tyX3 tyX3_ok hown q3_5 q3_6 q1_23 hK hO hS hH (ci := 3) rfl (fs := [.null, .int 0, .long 0, .int 0, .int 0, .int 0, .int 0, .int 0, .int 0, .int 0]) dfX3 (Nat.le_of_ble_eq_true rfl) (Nat.le_of_ble_eq_true rfl) dX7_open_46 (fun q3 H hH hn_q3 hb_q3 hS => ?_)
      obtain ⟨f4, ef4⟩ : ∃ zz_, zz_ = hm_up f q3 (eR 3 [.null, .int 0, .long 0, .int 0, .int 0, .int 0, .int 0, .int 0, .int 0, .int 0]) := ⟨_, rfl⟩
      have hH : hm_H Γ f4 H := by rw [ef4]; exact hH
      have h5 : f4 q3 = some (eR 3 [.null, .int 0, .long 0, .int 0, .int 0, .int 0, .int 0, .int 0, .int 0, .int 0]) := by rw [ef4]; exact hm_us
      have h6 : f4 x0 = some (eR 7 [.ref lp, .ref lg, .ref lt, .ref ca, .ref tr, .ref pl, .int lim, .long rf, .long so, .long sp, .long sh, .long sm]) := by rw [ef4]; exact (hm_un (hm_nn hx0 hn_q3)).trans hx0
      have h7 : f4 lp = some (eR 0 [.int moP, .ref aP, .int (nI np)]) := by rw [ef4]; exact (hm_un (hm_nn hlP hn_q3)).trans hlP
      have h8 : f4 lg = some (eR 0 [.int moG, .ref aG, .int (nI ng)]) := by rw [ef4]; exact (hm_un (hm_nn hlG hn_q3)).trans hlG
      have h9 : f4 lt = some (eR 0 [.int moT, .ref aT, .int (nI nt)]) := by rw [ef4]; exact (hm_un (hm_nn hlT hn_q3)).trans hlT
      have h10 : f4 ((P i)) = some (eR 4 [.int (nI i), .int ((mf i)), .int ((mon i))]) := by rw [ef4]; exact (hm_un (hm_nn hPi_ hn_q3)).trans hPi_
      have kd11 : hm_kd (kX []) Γ f f4 := (by rw [ef4]; exact hm_kd.upN hn_q3)
      refine lv_dup hx hb dX7_open_49 rfl ?_
      refine lv_aload_n hx hb dX7_open_50 rfl (lv_at hl 0 rfl) ?_
      refine lv_aload_n hx hb dX7_open_51 rfl (lv_at hl 1 rfl) ?_
      refine gf_X7_16 hx hb hts hown hK hH h6 rfl dX7_open_52 ?_
      refine hm_callV (rest := [.ref ((P i)), .ref q3, .ref q3, .ref lg]) (k := 1) q1_210 q1_211 q1_4 q1_213 q1_212 rfl nm_Jx4a65c_size_8abf5 rfl hx hb hml hown hts hK hO hS hH hl.1 h8 (c_size Γ l lg aG cg_ ng G f4 (hLG.kps h34 rfl rfl (by rw [ef4]; exact (hm_kd.upN hn_q3 : hm_kd (kX []) Γ f _)))) ⟨Nat.le_of_ble_eq_true rfl, Nat.le_of_ble_eq_true rfl⟩ ⟨Nat.le_of_ble_eq_true rfl, Nat.le_of_ble_eq_true rfl⟩ rfl (Nat.le_of_ble_eq_true rfl) dX7_open_55 (fun v_ f_ H locs hp_ hH hS => ?_)
      obtain ⟨rfl, ef_⟩ := hp_
      rw [ef_] at hH
      clear ef_
      refine W.eq (g2 := F0 m 58 ls [.int (nI ng), .ref ((P i)), .ref q3, .ref q3, .ref lg]) rfl ?_
      refine lv_iload_n hx hb dX7_open_58 rfl (lv_at hl 3 rfl) ?_
      refine hm_callI (rest := [.ref q3, .ref lg]) (k := 4) q3_7 q3_8 q1_23 q3_9 nm_X3_init rfl rfl hx hb hml hown hts hK hO hS hH hl.1 (c_X3_init Γ l q3 (P i) z 0 0 0 0 0 0 0 (nI ng) 0 0 f4 h5) ⟨Nat.le_of_ble_eq_true rfl, Nat.le_of_ble_eq_true rfl⟩ ⟨Nat.le_of_ble_eq_true rfl, Nat.le_of_ble_eq_true rfl⟩ rfl (Nat.le_of_ble_eq_true rfl) dX7_open_59 (fun v_ f2_ H locs hp_ hH hS => ?_)
      obtain ⟨rfl, ef2_⟩ := hp_
      refine W.eq (g2 := F0 m 62 ls [.ref q3, .ref lg]) rfl ?_
      have ef3_ : f2_ = hm_up f q3 (eR 3 [.ref (P i), .int (1 <<< (nI ng &&& 31)), .long (b5 (newB z)), .int (nI (newZ z)), .int 0, .int 0, .int 0, .int 0, .int 0, .int 0]) := by rw [ef2_, ef4, hm_uu]
      have hq0 : f q3 = none := hn_q3
      have hq2 : f2_ q3 = some (eR 3 [.ref (P i), .int (1 <<< (nI ng &&& 31)), .long (b5 (newB z)), .int (nI (newZ z)), .int 0, .int 0, .int 0, .int 0, .int 0, .int 0]) := by rw [ef3_]; exact hm_us
      have hkN : hm_kd (kX []) Γ f f2_ := by rw [ef3_]; exact hm_kd.upN hq0
      have h12 : f2_ x0 = some (eR 7 [.ref lp, .ref lg, .ref lt, .ref ca, .ref tr, .ref pl, .int lim, .long rf, .long so, .long sp, .long sh, .long sm]) := hkN _ _ hx0 rfl
      have h13 : f2_ lp = some (eR 0 [.int moP, .ref aP, .int (nI np)]) := hkN _ _ hlP rfl
      have h14 : f2_ lg = some (eR 0 [.int moG, .ref aG, .int (nI ng)]) := hkN _ _ hlG rfl
      have h15 : f2_ lt = some (eR 0 [.int moT, .ref aT, .int (nI nt)]) := hkN _ _ hlT rfl
      have hL2 := hLG.kps h34 rfl rfl hkN
      have hel2 : ∀ i, i < ng → isO f2_ (G i) := fun i hi => ⟨3, _, (RX3, TX3, 10), hkN _ _ (hG i hi) rfl, rfl, by decide⟩
      have hxO : isO f2_ q3 := ⟨3, _, (RX3, TX3, 10), hq2, rfl, by decide⟩
      have hxa : q3 ≠ lg := hm_ne hq2 h14 (fun z => by injection z with z; injection z with z; cases z)
      obtain ⟨gA_, hgA_, -⟩ := hL2.2.1
      refine hm_callV (rest := []) (k := 6) q2_116 q2_117 q1_4 q2_119 q2_118 rfl nm_Jx4a65c_add_9ea2d rfl hx hb hml hown hts hK hO hS hH hl.1 h14 (c_add Γ l lg aG cg_ ng G q3 f2_ hL2 (by omega) hcG hxO hxa hel2) ⟨Nat.le_of_ble_eq_true rfl, Nat.le_of_ble_eq_true rfl⟩ ⟨Nat.le_of_ble_eq_true rfl, Nat.le_of_ble_eq_true rfl⟩ rfl (Nat.le_of_ble_eq_true rfl) dX7_open_62 (fun v3_ f3_ H locs hp_ hH hS => ?_)
      obtain ⟨rfl, ar9, cap9, w1, w2, w3, w4⟩ := hp_
      refine W.eq (g2 := F0 m 65 ls [.int 1]) rfl ?_
      have hkA : hm_kd (kX [0, 100]) Γ f2_ f3_ := .ofk w2 (oL_kd (mo := .null) h34 h14 hgA_)
      have hkT : hm_kd (kX [0, 100]) Γ f f3_ := (hkN.mono (fun _ _ => rfl)).tr hkA
      obtain ⟨gP_, hgP_, -⟩ := hLP.2.1
      have hL3P := (hLP.kps h34 rfl rfl hkN).kp w2 (oL_no2 hgA_ (hkN _ _ hlP rfl) hpg) (oL_not (mo := 0) h14 (hkN _ _ hgP_ (by rw [kd_O h34]; rfl)) (fun z => fun w => hPG z (z ▸ w)))
      obtain ⟨gT_, hgT_, -⟩ := hLT.2.1
      have hL3T := (hLT.kps h34 rfl rfl hkN).kp w2 (oL_no2 hgA_ (hkN _ _ hlT rfl) hgt.symm) (oL_not (mo := 0) h14 (hkN _ _ hgT_ (by rw [kd_O h34]; rfl)) (fun z => fun w => hGT z.symm w))
      have hx3 := hkT _ _ hx0 rfl
      obtain ⟨⟨mo9, hl9⟩, -⟩ := id w1
      have hnA : ∀ b y, f b = some (.inl y) → ar9 = b → (aG = b → ¬ gB Γ ≤ aG) → ¬ gB Γ ≤ ar9 := by
        intro b y hb hab hold
        rcases w3 with ⟨e1, -⟩ | e1
        · rw [e1]; exact hold (by rw [← e1]; exact hab)
        · exfalso
          have hbf : f2_ b = some (.inl y) := by rw [ef3_]; exact (hm_un (hm_nn hb hq0)).trans hb
          rw [hab] at e1; rw [e1] at hbf; cases hbf
      refine lv_pop hx hb dX7_open_65 rfl ?_
      refine lv_aload_n hx hb dX7_open_66 rfl (lv_at hl 1 rfl) ?_
      refine gf_X7_16 hx hb hts hown hK hH hx3 rfl dX7_open_67 ?_
      refine hm_callV (rest := []) (k := 1) q1_210 q1_211 q1_4 q1_213 q1_212 rfl nm_Jx4a65c_size_8abf5 rfl hx hb hml hown hts hK hO hS hH hl.1 hl9 (c_size Γ l lg ar9 cap9 (ng + 1) (va_up G ng q3) f3_ w1) ⟨Nat.le_of_ble_eq_true rfl, Nat.le_of_ble_eq_true rfl⟩ ⟨Nat.le_of_ble_eq_true rfl, Nat.le_of_ble_eq_true rfl⟩ rfl (Nat.le_of_ble_eq_true rfl) dX7_open_70 (fun v_ f_ H locs hp_ hH hS => ?_)
      obtain ⟨rfl, ef_⟩ := hp_
      rw [ef_] at hH
      clear ef_
      refine W.eq (g2 := F0 m 73 ls [.int (nI (ng + 1))]) rfl ?_
      refine lv_iconst (v := 1) hx hb dX7_open_73 (by decide) ?_
      refine lv_isub hx hb dX7_open_74 ?_
      refine lv_topi (fun v16 ev16 => ?_)
      replace ev16 : v16 = nI ng := ev16.trans (nI_pred ng)
      subst ev16
      exact vx_ret (hm_iret hx hb hr hlocks hS hH (⟨by rw [hb1]; (try rw [hix]); rw [hb2]; rw [hb3]; rfl, rfl, (by rw [hix, hiz]; exact ⟨lp, lg, lt, ca, tr, pl, ⟨hx3, aP, cp_, P, ar9, cap9, (va_up G ng q3), aT, ct_, T, ⟨hL3P, hcP, fun j hj => hkT _ _ (hP j hj) rfl, hPj⟩, ⟨w1, w4, fun j hj => by { by_cases e : j = ng; (subst e; rw [up_s, setG_s]; exact hkA _ _ hq2 rfl); (rw [up_n e, setG_n e]; exact hkT _ _ (hG j (by omega)) rfl) }, fun a b ha hb hab => by { by_cases e1 : a = ng; (by_cases e2 : b = ng; (rw [e1, e2]); (exfalso; rw [e1, up_s, up_n e2] at hab; exact hm_nn (hG b (by omega)) hq0 hab.symm)); (by_cases e2 : b = ng; (exfalso; rw [e2, up_s, up_n e1] at hab; exact hm_nn (hG a (by omega)) hq0 hab); (rw [up_n e1, up_n e2] at hab; exact hGj a b (by omega) (by omega) hab)) }⟩, ⟨hL3T, hcT, fun j hj => hkT _ _ (hT j hj) rfl⟩, ⟨hpg, hpt, hgt⟩, (fun z w => hnA _ _ hgP_ z.symm (fun y w2 => hPG y.symm (y ▸ w2)) (z ▸ w)), hPT, (fun z => hnA _ _ hgT_ z hGT)⟩, hCD.kpt (kX_D hkT rfl rfl rfl rfl)⟩), kX_M hkT rfl rfl⟩) (Nat.le_of_ble_eq_true rfl) (Nat.le_of_ble_eq_true rfl) dX7_open_75)
    · exact hm_thr hx hb hst hml hl.1 hown q2_80 q1_13 (text := "there is no place for another game") (by decide) xA_IS (by decide +kernel) hts hK hO hS hH dX7_open_32 dX7_open_35 dX7_open_36 dX7_open_38 dX7_open_41 hout hlocks (by have hb0 : decide (ng < 8) = false := decide_eq_false (fun q => absurd (nI_lt q (by decide)) c2); exact ⟨by rw [hb1]; (try rw [hix]); rw [hb2]; rw [hb0]; exact (show (3 : Int32) ≠ 0 by decide), by rw [hb1]; (try rw [hix]); rw [hb2]; rw [hb0]; exact (Or.inr (Or.inr (Or.inl ⟨rfl, rfl⟩))), hC, hm_kd.rf⟩) (Nat.le_of_ble_eq_true rfl) (Nat.le_of_ble_eq_true rfl) (Nat.le_of_ble_eq_true rfl) (Nat.le_of_ble_eq_true rfl) (Nat.le_of_ble_eq_true rfl) (Nat.le_of_ble_eq_true rfl)
  · exact hm_thr hx hb hst hml hl.1 hown q2_8 q1_12 (text := "the seed is less than 0") (by decide) xA_IA (by decide +kernel) hts hK hO hS hH dX7_open_10 dX7_open_13 dX7_open_14 dX7_open_16 dX7_open_19 hout hlocks (by have hb0 : decide (0 ≤ v1) = false := decide_eq_false c1; exact ⟨by rw [hb1]; (try rw [hix]); rw [hb0]; exact (show (2 : Int32) ≠ 0 by decide), by rw [hb1]; (try rw [hix]); rw [hb0]; exact (Or.inr (Or.inl ⟨rfl, rfl⟩)), hC, hm_kd.rf⟩) (Nat.le_of_ble_eq_true rfl) (Nat.le_of_ble_eq_true rfl) (Nat.le_of_ble_eq_true rfl) (Nat.le_of_ble_eq_true rfl) (Nat.le_of_ble_eq_true rfl) (Nat.le_of_ble_eq_true rfl)
