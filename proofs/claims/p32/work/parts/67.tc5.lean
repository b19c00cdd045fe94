/-! TileWarden: hint -/
set_option maxHeartbeats 4000000 in
set_option maxRecDepth 100000 in
theorem t_X7_hint (Γ : Gm) (l : Launch) (x0 : Nat) (mf : Nat → Int32) (E : Nat → EV) (cn us : Int32) (so sh sm : Int64) (np : Nat) (mon : Nat → Int32) (ng : Nat) (gs : Nat → GS) (nt : Nat) (ts : Nat → TR) (lim : Int32) (rf sp : Int64) (rr : Nat) (v0 v1 : Int32) (f : Hm) (hst : l.stackTraces = false) (hC : CW Γ f x0 mf E cn us so sh sm np mon ng gs nt ts lim rf sp rr) (hnp : np ≤ 4) (hng : ng ≤ 8) (hnt : nt ≤ 60) (hr1 : 1 ≤ rr) (hrr : rr ≤ 64) (hgs : GOK np ng gs) (hok : ∀ j, j < 64 → eok (E j)) : Cx Γ l yX7_hint cX7_hint 4 (some .int) 14 6 120 [.ref x0, .int v0, .int v1] f (cP (if inB v0 (nI ng) then (if inR v1 1 4 then (if (!(gs (ix v0)).2.2.2.2.2.2.2.2 && !ovN (gs (ix v0)).2.1) then (if decide ((mxI (trS 64 (nI rr) (ix v1) (gs (ix v0)).2.1 (gs (ix v0)).2.2.1 (E, cn, us, 0, 0)).2.2.2.2 1) ≤ mon (gs (ix v0)).1) then (if decide (nt < 60) then 0 else 5) else 4) else 3) else 2) else 1) ((wp (ix v1) (gs (ix v0)).2.1 (gs (ix v0)).2.2.1).2) Γ f (fun f' => CW Γ f' x0 mf ((trS 64 (nI rr) (ix v1) (gs (ix v0)).2.1 (gs (ix v0)).2.2.1 (E, cn, us, 0, 0)).1) ((trS 64 (nI rr) (ix v1) (gs (ix v0)).2.1 (gs (ix v0)).2.2.1 (E, cn, us, 0, 0)).2.1) ((trS 64 (nI rr) (ix v1) (gs (ix v0)).2.1 (gs (ix v0)).2.2.1 (E, cn, us, 0, 0)).2.2.1) ((so + 1)) ((sh + (trS 64 (nI rr) (ix v1) (gs (ix v0)).2.1 (gs (ix v0)).2.2.1 (E, cn, us, 0, 0)).2.2.2.1.toInt64)) ((sm + (trS 64 (nI rr) (ix v1) (gs (ix v0)).2.1 (gs (ix v0)).2.2.1 (E, cn, us, 0, 0)).2.2.2.2.toInt64)) np ((upd mon (gs (ix v0)).1 (mon (gs (ix v0)).1 - (mxI (trS 64 (nI rr) (ix v1) (gs (ix v0)).2.1 (gs (ix v0)).2.2.1 (E, cn, us, 0, 0)).2.2.2.2 1)))) ng ((setG gs (ix v0) ((gs (ix v0)).1, (gs (ix v0)).2.1, (gs (ix v0)).2.2.1, (gs (ix v0)).2.2.2.1, (gs (ix v0)).2.2.2.2.1, (gs (ix v0)).2.2.2.2.2.1, (gs (ix v0)).2.2.2.2.2.2.1, (gs (ix v0)).2.2.2.2.2.2.2.1 + (mxI (trS 64 (nI rr) (ix v1) (gs (ix v0)).2.1 (gs (ix v0)).2.2.1 (E, cn, us, 0, 0)).2.2.2.2 1), (gs (ix v0)).2.2.2.2.2.2.2.2))) ((nt + 1)) ((setT ts nt ((gs (ix v0)).1, (gs (ix v0)).2.1, (gs (ix v0)).2.2.1, (wp (ix v1) (gs (ix v0)).2.1 (gs (ix v0)).2.2.1).2))) lim rf ((sp + (mxI (trS 64 (nI rr) (ix v1) (gs (ix v0)).2.1 (gs (ix v0)).2.2.1 (E, cn, us, 0, 0)).2.2.2.2 1).toInt64)) rr)) (cY [("java/lang/IndexOutOfBoundsException", 1), ("java/lang/IllegalArgumentException", 2), ("java/lang/UnsupportedOperationException", 3), ("java/util/NoSuchElementException", 4), ("java/lang/IllegalStateException", 5)] (if inB v0 (nI ng) then (if inR v1 1 4 then (if (!(gs (ix v0)).2.2.2.2.2.2.2.2 && !ovN (gs (ix v0)).2.1) then (if decide ((mxI (trS 64 (nI rr) (ix v1) (gs (ix v0)).2.1 (gs (ix v0)).2.2.1 (E, cn, us, 0, 0)).2.2.2.2 1) ≤ mon (gs (ix v0)).1) then (if decide (nt < 60) then 0 else 5) else 4) else 3) else 2) else 1) Γ f (fun f' => CW Γ f' x0 mf E cn us so sh sm np mon ng gs nt ts lim rf sp rr)) := by
  refine Cx_of (by decide +kernel) (Nat.le_of_ble_eq_true rfl) ?_
  intro p e s m args below meth c hx hb hr hml hown hin hlocks hout hts hH hO hK ls hl
  have hl0 := hl
  have hl : lv_has ls 4 [(0, .ref x0), (1, .int v0), (2, .int v1)] := hl
  have hS : va_S (gA Γ) s.heap s.heap [] := va_S.rf
  obtain ⟨lp, lg, lt, ca, tr, pl, hCL, hCD⟩ := id hC
  obtain ⟨hx0, aP, cp_, P, aG, cg_, G, aT, ct_, T, ⟨hLP, hcP, hP, hPj⟩, ⟨hLG, hcG, hG, hGj⟩, ⟨hLT, hcT, hT⟩, ⟨hpg, hpt, hgt⟩, hPG, hPT, hGT⟩ := id hCL
  obtain ⟨⟨moP, hlP⟩, -⟩ := id hLP
  obtain ⟨⟨moG, hlG⟩, -⟩ := id hLG
  obtain ⟨⟨moT, hlT⟩, -⟩ := id hLT
  have h34 := hm_c34 hK
  obtain ⟨sl, en, ca1, sl1, en1, E1, cn1, rm1, us1, u1, u2, u3, ca2, sl2, hCA, hCA1, htr, hPL, ⟨hca1, hca2, hca12, htrpl⟩, hdis⟩ := id hCD
  refine lv_aload_n hx hb dX7_hint_0 rfl (lv_at hl 0 rfl) ?_
  refine lv_iload_n hx hb dX7_hint_1 rfl (lv_at hl 1 rfl) ?_
  refine hm_xV (rest := []) (k := 4) q3_80 q3_82 q1_1 q3_83 q0_5 rfl nm_X7_findGame rfl hx hb hml hown hts hK hO hS hH hl.1 hx0 hout hlocks (c_findGame Γ l x0 lp lg lt ca tr pl lim rf so sp sh sm aG cg_ ng G v0 f hst hx0 hLG (by omega) (by omega) (fun i hi => ⟨_, hG i hi⟩)) (fun E f' h_ => by obtain ⟨rfl, hno, rfl⟩ := h_; have hb0 := inB_no (by omega) hno; exact ⟨by rw [hb0]; exact (show (1 : Int32) ≠ 0 by decide), by rw [hb0]; exact (Or.inl ⟨rfl, rfl⟩), hC, hm_kd.rf⟩) ⟨Nat.le_of_ble_eq_true rfl, Nat.le_of_ble_eq_true rfl⟩ ⟨Nat.le_of_ble_eq_true rfl, Nat.le_of_ble_eq_true rfl⟩ ⟨Nat.le_of_ble_eq_true rfl, Nat.le_of_ble_eq_true rfl⟩ rfl (Nat.le_of_ble_eq_true rfl) dX7_hint_2 (fun v_ f_ H locs hp_ hH hS => ?_)
  obtain ⟨i, hi, rfl, rfl, ef_⟩ := hp_
  rw [ef_] at hH
  clear ef_
  refine W.eq (g2 := F0 m 5 ls [.ref ((G i))]) rfl ?_
  have hb1 := inB_yes (n := ng) (by omega) hi
  have hix : ix (nI i) = i := ix_nI (by omega)
  have hGi := hG i hi
  obtain ⟨hgo, hgw, hgz⟩ := hgs i hi
  have hi8 : i < 8 := by omega
  have ht31 : tl 31 (gs i).2.1 := tl31 (by omega)
  refine lv_astore_n (lv' := [(3, .ref ((G i))), (0, .ref x0), (1, .int (nI i)), (2, .int v1)]) hx hb dX7_hint_5 rfl hl (by decide) rfl (fun ls hl => ?_)
  refine lv_iload_n hx hb dX7_hint_6 rfl (lv_at hl 3 rfl) ?_
  refine lv_iconst (v := 1) hx hb dX7_hint_7 (by decide) ?_
  refine hm_xS (rest := []) (k := 2) q3_152 q3_153 q1_1 q3_154 nm_X7_checkDepth rfl hx hb hml hown hts hK hO hS hH hl.1 hout hlocks (c_checkDepth Γ l v1 1 f hst (by decide)) (fun E f' h_ => by obtain ⟨rfl, hno, rfl⟩ := h_; have hb0 := inR_no hno; exact ⟨by rw [hb1]; (try rw [hix]); rw [hb0]; exact (show (2 : Int32) ≠ 0 by decide), by rw [hb1]; (try rw [hix]); rw [hb0]; exact (Or.inr (Or.inl ⟨rfl, rfl⟩)), hC, hm_kd.rf⟩) ⟨Nat.le_of_ble_eq_true rfl, Nat.le_of_ble_eq_true rfl⟩ ⟨Nat.le_of_ble_eq_true rfl, Nat.le_of_ble_eq_true rfl⟩ ⟨Nat.le_of_ble_eq_true rfl, Nat.le_of_ble_eq_true rfl⟩ rfl (Nat.le_of_ble_eq_true rfl) dX7_hint_8 (fun v_ f_ H locs hp_ hH hS => ?_)
  obtain ⟨rfl, ⟨d, hd1, hd4, rfl⟩, ef_⟩ := hp_
  rw [ef_] at hH
  clear ef_
  refine W.eq (g2 := F0 m 11 ls []) rfl ?_
  have hb2 := inR_yes hd1 hd4
  have hid : ix (nI d) = d := ix_nI (by omega)
  refine lv_aload_n hx hb dX7_hint_11 rfl (lv_at hl 0 rfl) ?_
  refine hm_xS (rest := []) (k := 7) q3_156 q3_157 q1_1 q3_158 nm_X7_checkHintable rfl hx hb hml hown hts hK hO hS hH hl.1 hout hlocks (c_checkHintable Γ l (G i) (P (gs i).1) _ _ _ _ _ _ (gs i).2.1 (gs i).2.2.1 (gs i).2.2.2.2.2.2.2.2 f hst ht31 hGi) (fun E f' h_ => by obtain ⟨rfl, hno, rfl⟩ := h_; have hb0 : (!(gs i).2.2.2.2.2.2.2.2 && !ovN (gs i).2.1) = false := by { rcases hno with h | h; rw [h]; rfl; rw [h, Bool.not_true, Bool.and_false] }; exact ⟨by rw [hb1]; (try rw [hix]); rw [hb2]; (try rw [hid]); rw [hb0]; exact (show (3 : Int32) ≠ 0 by decide), by rw [hb1]; (try rw [hix]); rw [hb2]; (try rw [hid]); rw [hb0]; exact (Or.inr (Or.inr (Or.inl ⟨rfl, rfl⟩))), hC, hm_kd.rf⟩) ⟨Nat.le_of_ble_eq_true rfl, Nat.le_of_ble_eq_true rfl⟩ ⟨Nat.le_of_ble_eq_true rfl, Nat.le_of_ble_eq_true rfl⟩ ⟨Nat.le_of_ble_eq_true rfl, Nat.le_of_ble_eq_true rfl⟩ rfl (Nat.le_of_ble_eq_true rfl) dX7_hint_12 (fun v_ f_ H locs hp_ hH hS => ?_)
  obtain ⟨rfl, hvd, hov, ef_⟩ := hp_
  rw [ef_] at hH
  clear ef_
  refine W.eq (g2 := F0 m 15 ls []) rfl ?_
  have hb3 : (!(gs i).2.2.2.2.2.2.2.2 && !ovN (gs i).2.1) = true := by rw [hvd, hov]; rfl
  refine lv_aload_n hx hb dX7_hint_15 rfl (lv_at hl 1 rfl) ?_
  refine lv_aload_n hx hb dX7_hint_16 rfl (lv_at hl 0 rfl) ?_
  refine lv_iload_n hx hb dX7_hint_17 rfl (lv_at hl 3 rfl) ?_
  refine hm_callV (rest := []) (k := 13) q3_164 q3_166 q1_1 q3_167 q0_7 rfl nm_X7_tryHint rfl hx hb hml hown hts hK hO hS hH hl.1 hx0 (c_tryHint Γ l x0 lp lg lt ca tr pl lim rf so sp sh sm sl en E cn (nI rr) us ca1 sl1 en1 E1 cn1 rm1 us1 u1 u2 u3 (G i) (P (gs i).1) _ _ _ _ _ _ (gs i).2.1 (gs i).2.2.1 (gs i).2.2.2.2.2.2.2.2 d f hx0 hCA hCA1 htr hca1 (fun i j hi hj => hdis j i hj hi) hok hGi hd1 hd4 hgz (by omega)) ⟨Nat.le_of_ble_eq_true rfl, Nat.le_of_ble_eq_true rfl⟩ ⟨Nat.le_of_ble_eq_true rfl, Nat.le_of_ble_eq_true rfl⟩ rfl (Nat.le_of_ble_eq_true rfl) dX7_hint_18 (fun v3_ f3_ H locs hp_ hH hS => ?_)
  obtain ⟨rfl, hC3, htr3, hok3, hfr3⟩ := hp_
  refine W.eq (g2 := F0 m 21 ls []) rfl ?_
  obtain ⟨hCA3, hPL3, hk3⟩ := CD.trial hCA hCA1 htr hPL hca1 hca12 htrpl hdis hfr3
  have hL3 := kX_L hk3 rfl rfl rfl rfl rfl rfl
  have hx3 := hk3 _ _ hx0 rfl
  have hG3 := hk3 _ _ hGi rfl
  have hP3 := hk3 _ _ (hP _ hgo) rfl
  have hlT3 := hk3 _ _ hlT rfl
  have hCL3 := hCL.kpt h34 hL3
  have hC9 : CW Γ f3_ x0 mf E cn us so sh sm np mon ng gs nt ts lim rf sp rr := ⟨lp, lg, lt, ca, tr, pl, hCL3, ⟨sl, en, ca1, sl1, en1, _, _, _, _, _, _, _, ca2, sl2, hCA3, hC3, htr3, hPL3, ⟨hca1, hca2, hca12, htrpl⟩, hdis⟩⟩
  obtain ⟨TS, eTS⟩ : ∃ TS, TS = (trS 64 (nI rr) d (gs i).2.1 (gs i).2.2.1 (E, cn, us, 0, 0)) := ⟨_, rfl⟩
  rw [← eTS] at hC3 htr3 hok3
  refine lv_aload_n hx hb dX7_hint_21 rfl (lv_at hl 0 rfl) ?_
  refine gf_X7_168 hx hb hts hown hK hH hG3 rfl dX7_hint_22 ?_
  refine gf_X7_172 hx hb hts hown hK hH hP3 rfl dX7_hint_25 ?_
  refine lv_aload_n hx hb dX7_hint_28 rfl (lv_at hl 1 rfl) ?_
  refine gf_X7_36 hx hb hts hown hK hH hx3 rfl dX7_hint_29 ?_
  refine hm_callV (rest := [.int ((mon (gs i).1))]) (k := 2) q3_216 q3_217 q1_8 q3_219 q3_218 rfl nm_X5_cost rfl hx hb hml hown hts hK hO hS hH hl.1 htr3 (c_X5_cost Γ l tr ca1 _ _ _ f3_ htr3) ⟨Nat.le_of_ble_eq_true rfl, Nat.le_of_ble_eq_true rfl⟩ ⟨Nat.le_of_ble_eq_true rfl, Nat.le_of_ble_eq_true rfl⟩ rfl (Nat.le_of_ble_eq_true rfl) dX7_hint_32 (fun v_ f_ H locs hp_ hH hS => ?_)
  obtain ⟨rfl, ef_⟩ := hp_
  rw [ef_] at hH
  clear ef_
  refine W.eq (g2 := F0 m 35 ls [.int ((mxI TS.2.2.2.2 1)), .int ((mon (gs i).1))]) rfl ?_
  refine lv_icmp_ge (tgt := 48) hx hb dX7_hint_35 (by decide) (fun c1 => ?_) (fun c1 => ?_)
  · have hb4 : decide (mxI (trS 64 (nI rr) d (gs i).2.1 (gs i).2.2.1 (E, cn, us, 0, 0)).2.2.2.2 1 ≤ mon (gs i).1) = true := by rw [← eTS]; exact decide_eq_true c1
    refine lv_aload_n hx hb dX7_hint_48 rfl (lv_at hl 1 rfl) ?_
    refine gf_X7_19 hx hb hts hown hK hH hx3 rfl dX7_hint_49 ?_
    refine hm_callV (rest := []) (k := 1) q1_210 q1_211 q1_4 q1_213 q1_212 rfl nm_Jx4a65c_size_8abf5 rfl hx hb hml hown hts hK hO hS hH hl.1 hlT3 (c_size Γ l lt aT ct_ nt T f3_ (hLT.kpt h34 hL3)) ⟨Nat.le_of_ble_eq_true rfl, Nat.le_of_ble_eq_true rfl⟩ ⟨Nat.le_of_ble_eq_true rfl, Nat.le_of_ble_eq_true rfl⟩ rfl (Nat.le_of_ble_eq_true rfl) dX7_hint_52 (fun v_ f_ H locs hp_ hH hS => ?_)
    obtain ⟨rfl, ef_⟩ := hp_
    rw [ef_] at hH
    clear ef_
    refine W.eq (g2 := F0 m 55 ls [.int (nI nt)]) rfl ?_
    refine lv_bipush (v := 60) hx hb dX7_hint_55 (by decide) ?_
    refine lv_icmp_lt (tgt := 70) hx hb dX7_hint_57 (by decide) (fun c2 => ?_) (fun c2 => ?_)
    · have hb5 : decide (nt < 60) = true := decide_eq_true ((nI_ltI (by omega) (by decide)).mp c2)
      have hnt60 : nt < 60 := of_decide_eq_true hb5
      refine lv_aload_n hx hb dX7_hint_70 rfl (lv_at hl 1 rfl) ?_
      refine lv_aload_n hx hb dX7_hint_71 rfl (lv_at hl 0 rfl) ?_
      refine hm_callV (rest := []) (k := 8) q3_238 q4_0 q1_1 q4_1 q0_10 rfl nm_X7_sellTriedHint rfl hx hb hml hown hts hK hO hS hH hl.1 hx3 (c_sellTriedHint Γ l x0 lp lg lt ca tr pl lim rf so sp sh sm sl en E cn (nI rr) us ca1 sl1 en1 TS.1 TS.2.1 (nI rr) TS.2.2.1 TS.2.2.2.1 TS.2.2.2.2 (wp d (gs i).2.1 (gs i).2.2.1).2 (G i) (P (gs i).1) _ _ _ _ _ _ (gs i).2.1 (gs i).2.2.1 (gs i).2.2.2.2.2.2.2.2 (nI (gs i).1) _ _ aT ct_ nt T (fun i => tx5 (ts i)) f3_ hx3 hCA3 hC3 htr3 hca1.symm (fun i j hi hj => (hdis i j hi hj).symm) hG3 hP3 (hLT.kpt h34 hL3) hnt60 hcT (fun j hj => hk3 _ _ (hT j hj) rfl)) ⟨Nat.le_of_ble_eq_true rfl, Nat.le_of_ble_eq_true rfl⟩ ⟨Nat.le_of_ble_eq_true rfl, Nat.le_of_ble_eq_true rfl⟩ rfl (Nat.le_of_ble_eq_true rfl) dX7_hint_72 (fun v4_ f4_ H locs hp_ hH hS => ?_)
      obtain ⟨rfl, hCA4, hP4, hG4, hx4, q, ar9, cap9, hq0, hq4, hLT4, w3, w4, hk4⟩ := hp_
      refine W.eq (g2 := F0 m 75 ls []) rfl ?_
      obtain ⟨gT_, hgT_, -⟩ := (hLT.kpt h34 hL3).2.1
      have hnS : ∀ b ci fs, f3_ b = some (eR ci fs) → b ≠ x0 → b ≠ P (gs i).1 → b ≠ G i → ¬ cS ca 64 en b → b ≠ lt → f4_ b = some (eR ci fs) := by
        intro b ci fs hb h1 h2 h3 h4 h5
        refine hk4 _ _ ?_ hb
        rintro ((z | z | z | z) | z)
        · exact h1 z
        · exact h2 z
        · exact h3 z
        · exact h4 z
        · exact oL_no2 hgT_ hb h5 z
      have hnA4 : ∀ b y, f3_ b = some (.inl y) → (b = aT → ¬ gB Γ ≤ aT) → f4_ b = some (.inl y) := by
        intro b y hb h1
        refine hk4 _ _ ?_ hb
        rintro ((z | z | z | z | ⟨j, hj, z⟩) | z)
        · exact a_ne hb hx3 z
        · exact a_ne hb hP3 z
        · exact a_ne hb hG3 z
        · exact a_ne hb hCA3.1 z
        · exact a_ne hb (hCA3.2.2.1 j hj) z
        · exact oL_not (mo := 0) hlT3 hb h1 z
      have hcl : ∀ b ci fs, f3_ b = some (eR ci fs) → ci ≠ 1 → ci ≠ 2 → ¬ cS ca 64 en b := fun b ci fs hb h1 h2 => cS_not hCA3 hb h1 h2
      have hR4 : ∀ b ci fs, f3_ b = some (eR ci fs) → ci ≠ 7 → ci ≠ 4 → ci ≠ 3 → ci ≠ 1 → ci ≠ 2 → ci ≠ 0 → f4_ b = some (eR ci fs) := fun b ci fs hb h7 h4 h3 h1 h2 h0 => hnS b ci fs hb (r_ne hb hx3 h7) (r_ne hb hP3 h4) (r_ne hb hG3 h3) (hcl b ci fs hb h1 h2) (r_ne hb hlT3 h0)
      have hLI : ∀ a ar cap n (L : Nat → Nat), LI Γ f3_ a ar cap n L → a ≠ lt → (ar = aT → ¬ gB Γ ≤ aT) → LI Γ f4_ a ar cap n L := by
        rintro a ar cap n L ⟨⟨mo, g1⟩, ⟨g, g2, g3⟩, g4⟩ h1 h2
        exact ⟨⟨mo, hnS _ _ _ g1 (r_ne g1 hx3 (by decide)) (r_ne g1 hP3 (by decide)) (r_ne g1 hG3 (by decide)) (hcl _ _ _ g1 (by decide) (by decide)) h1⟩, ⟨g, hnA4 _ _ g2 h2, g3⟩, g4⟩
      have hCA14 : CA Γ f4_ ca1 sl1 64 en1 TS.1 TS.2.1 (nI rr) TS.2.2.1 := by
        obtain ⟨g1, ⟨g, g2, g3⟩, g4, g5⟩ := hC3
        refine ⟨hnS _ _ _ g1 (r_ne g1 hx3 (by decide)) (r_ne g1 hP3 (by decide)) (r_ne g1 hG3 (by decide)) ?_ (r_ne g1 hlT3 (by decide)), ⟨g, hnA4 _ _ g2 ?_, g3⟩, fun j hj => hnS _ _ _ (g4 j hj) (r_ne (g4 j hj) hx3 (by decide)) (r_ne (g4 j hj) hP3 (by decide)) (r_ne (g4 j hj) hG3 (by decide)) ?_ (r_ne (g4 j hj) hlT3 (by decide)), g5⟩
        · rintro (z | ⟨j, hj, z⟩)
          · exact hca1 z.symm
          · exact r_ne g1 (hCA3.2.2.1 j hj) (by decide) z
        · intro z; exfalso; rw [z, hgT_] at g2; injection g2 with g2; injection g2 with g2; injection g2 with g2; exact h34 g2.symm
        · rintro (z | ⟨k, hk, z⟩)
          · exact r_ne (g4 j hj) hCA3.1 (by decide) z
          · exact hdis k j hk hj z.symm
      have hPL4 : PLN Γ f4_ pl ca2 sl2 := by
        obtain ⟨⟨a, b, c, h1⟩, en0, E0, cn0, rm0, us0, g1, ⟨g, g2, g3⟩, g4, g5⟩ := hPL3
        refine ⟨⟨a, b, c, hR4 _ _ _ h1 (by decide) (by decide) (by decide) (by decide) (by decide) (by decide)⟩, en0, E0, cn0, rm0, us0, hnS _ _ _ g1 (r_ne g1 hx3 (by decide)) (r_ne g1 hP3 (by decide)) (r_ne g1 hG3 (by decide)) ?_ (r_ne g1 hlT3 (by decide)), ⟨g, hnA4 _ _ g2 ?_, g3⟩, fun i hi => absurd hi (Nat.not_lt_zero _), g5⟩
        · rintro (z | ⟨j, hj, z⟩)
          · exact hca2 z.symm
          · exact r_ne g1 (hCA3.2.2.1 j hj) (by decide) z
        · intro z; exfalso; rw [z, hgT_] at g2; injection g2 with g2; injection g2 with g2; injection g2 with g2; exact h34 g2.symm
      have htr4 := hR4 _ _ _ htr3 (by decide) (by decide) (by decide) (by decide) (by decide) (by decide)
      have hkM4 : hm_kd kM Γ f3_ f4_ := .of hk4 (by
        rintro b e ((z | z | z | z | ⟨j, hj, z⟩) | z | ⟨z, -⟩) he
        · rw [z, hx3] at he; injection he with he; rw [← he]; rfl
        · rw [z, hP3] at he; injection he with he; rw [← he]; rfl
        · rw [z, hG3] at he; injection he with he; rw [← he]; rfl
        · rw [z, hCA3.1] at he; injection he with he; rw [← he]; rfl
        · rw [z, hCA3.2.2.1 j hj] at he; injection he with he; rw [← he]; rfl
        · rw [z, hlT3] at he; injection he with he; rw [← he]; rfl
        · rw [z, hgT_] at he; injection he with he; rw [← he, kd_O h34]; rfl)
      have hnA9 : ∀ b y, f3_ b = some (.inl y) → b = ar9 → (b = aT → ¬ gB Γ ≤ b) → ¬ gB Γ ≤ b := by
        intro b y hb hab hold
        rcases w3 with ⟨e1, -⟩ | e1
        · exact hold (by rw [hab, e1])
        · exfalso; rw [← hab, hb] at e1; cases e1
      obtain ⟨gP_, hgP_, -⟩ := (hLP.kpt h34 hL3).2.1
      obtain ⟨gG_, hgG_, -⟩ := (hLG.kpt h34 hL3).2.1
      refine lv_aload_n hx hb dX7_hint_75 rfl (lv_at hl 1 rfl) ?_
      refine gf_X7_36 hx hb hts hown hK hH hx4 rfl dX7_hint_76 ?_
      refine gf_X7_185 hx hb hts hown hK hH htr4 rfl dX7_hint_79 ?_
      exact vx_ret (hm_iret hx hb hr hlocks hS hH (⟨by rw [hb1]; (try rw [hix]); rw [hb2]; (try rw [hid]); rw [hb3]; rw [hb4]; rw [hb5]; rfl, by rw [hix, hid], (by rw [hix, hid, ← eTS]; exact ⟨lp, lg, lt, ca, tr, pl, ⟨hx4, aP, cp_, P, aG, cg_, G, ar9, cap9, (va_up T nt q), ⟨hLI _ _ _ _ _ (hLP.kpt h34 hL3) hpt (fun z w => hPT z (z ▸ w)), hcP, fun j hj => by { by_cases e : j = (gs i).1; (subst e; rw [updI_s]; exact hP4); (rw [updI_n e]; have hj3 := hk3 _ _ (hP j hj) rfl; exact hnS _ _ _ hj3 (r_ne hj3 hx3 (by decide)) (fun z => e (hPj j _ hj hgo z)) (r_ne hj3 hG3 (by decide)) (hcl _ _ _ hj3 (by decide) (by decide)) (r_ne hj3 hlT3 (by decide))) }, hPj⟩, ⟨hLI _ _ _ _ _ (hLG.kpt h34 hL3) hgt (fun z w => hGT z (z ▸ w)), hcG, fun j hj => by { by_cases e : j = i; (subst e; rw [setG_s]; exact hG4); (rw [setG_n e]; have hj3 := hk3 _ _ (hG j hj) rfl; exact hnS _ _ _ hj3 (r_ne hj3 hx3 (by decide)) (r_ne hj3 hP3 (by decide)) (fun z => e (hGj j i hj hi z)) (hcl _ _ _ hj3 (by decide) (by decide)) (r_ne hj3 hlT3 (by decide))) }, hGj⟩, ⟨hLT4, w4, fun j hj => by { by_cases e : j = nt; (subst e; rw [up_s]; show f4_ q = some (tx (tx5 (setT ts j _ j))); rw [show setT ts j ((gs i).1, (gs i).2.1, (gs i).2.2.1, (wp d (gs i).2.1 (gs i).2.2.1).2) j = ((gs i).1, (gs i).2.1, (gs i).2.2.1, (wp d (gs i).2.1 (gs i).2.2.1).2) from if_pos rfl]; exact hq4); (rw [up_n e]; show f4_ (T j) = some (tx (tx5 (setT ts nt _ j))); rw [show setT ts nt ((gs i).1, (gs i).2.1, (gs i).2.2.1, (wp d (gs i).2.1 (gs i).2.2.1).2) j = ts j from if_neg e]; exact hR4 _ _ _ (hk3 _ _ (hT j (by omega)) rfl) (by decide) (by decide) (by decide) (by decide) (by decide) (by decide)) }⟩, ⟨hpg, hpt, hgt⟩, hPG, (fun z => hnA9 _ _ hgP_ z (fun y => hPT y)), (fun z => hnA9 _ _ hgG_ z (fun y => hGT y))⟩, ⟨sl, en, ca1, sl1, en1, TS.1, TS.2.1, nI rr, TS.2.2.1, TS.2.2.2.1, TS.2.2.2.2, (wp d (gs i).2.1 (gs i).2.2.1).2, ca2, sl2, hCA4, hCA14, htr4, hPL4, ⟨hca1, hca2, hca12, htrpl⟩, hdis⟩⟩), (kX_M hk3 rfl rfl).tr hkM4⟩) (Nat.le_of_ble_eq_true rfl) (Nat.le_of_ble_eq_true rfl) dX7_hint_82)
    · exact hm_thr hx hb hst hml hl.1 hown q2_80 q1_13 (text := "there is no place for another trace") (by decide) xA_IS (by decide +kernel) hts hK hO hS hH dX7_hint_60 dX7_hint_63 dX7_hint_64 dX7_hint_66 dX7_hint_69 hout hlocks (by have hb0 : decide (nt < 60) = false := decide_eq_false (fun q => absurd (nI_lt q (by decide)) c2); exact ⟨by rw [hb1]; (try rw [hix]); rw [hb2]; (try rw [hid]); rw [hb3]; rw [hb4]; rw [hb0]; exact (show (5 : Int32) ≠ 0 by decide), by rw [hb1]; (try rw [hix]); rw [hb2]; (try rw [hid]); rw [hb3]; rw [hb4]; rw [hb0]; exact (Or.inr (Or.inr (Or.inr (Or.inr (Or.inl ⟨rfl, rfl⟩))))), hC9, kX_M hk3 rfl rfl⟩) (Nat.le_of_ble_eq_true rfl) (Nat.le_of_ble_eq_true rfl) (Nat.le_of_ble_eq_true rfl) (Nat.le_of_ble_eq_true rfl) (Nat.le_of_ble_eq_true rfl) (Nat.le_of_ble_eq_true rfl)
  · exact hm_thrN hx hb hst hml hl.1 hown q3_221 q1_26 (text := "the player has too little money") (by decide) xA_NS (by decide +kernel) (by decide +kernel) (by decide +kernel) (by decide +kernel) (by decide +kernel) (by decide +kernel) hts hK hO hS hH dX7_hint_38 dX7_hint_41 dX7_hint_42 dX7_hint_44 dX7_hint_47 hout hlocks (by have hb0 : decide (mxI (trS 64 (nI rr) d (gs i).2.1 (gs i).2.2.1 (E, cn, us, 0, 0)).2.2.2.2 1 ≤ mon (gs i).1) = false := (by rw [← eTS]; exact decide_eq_false c1); exact ⟨by rw [hb1]; (try rw [hix]); rw [hb2]; (try rw [hid]); rw [hb3]; rw [hb0]; exact (show (4 : Int32) ≠ 0 by decide), by rw [hb1]; (try rw [hix]); rw [hb2]; (try rw [hid]); rw [hb3]; rw [hb0]; exact (Or.inr (Or.inr (Or.inr (Or.inl ⟨rfl, rfl⟩)))), hC9, kX_M hk3 rfl rfl⟩) (Nat.le_of_ble_eq_true rfl) (Nat.le_of_ble_eq_true rfl) (Nat.le_of_ble_eq_true rfl) (Nat.le_of_ble_eq_true rfl) (Nat.le_of_ble_eq_true rfl) (Nat.le_of_ble_eq_true rfl)
