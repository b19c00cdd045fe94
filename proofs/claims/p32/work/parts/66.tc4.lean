/-! TileWarden: worth, price, hint -/
section CDs
variable {Γ : Gm} {f f' : Hm} {ca tr pl sl ca1 sl1 ca2 sl2 : Nat} {en en1 : Nat → Nat} {E E1 : Nat → EV} {cn rm us cn1 rm1 us1 : Int32} {tf : List Value}
theorem r_ne {a b ci cj : Nat} {fs gs : List Value} (ha : f a = some (eR ci fs)) (hb : f b = some (eR cj gs)) (h : ci ≠ cj) : a ≠ b := hm_ne ha hb (fun q => by injection q with q; injection q with q; exact h q)
theorem a_ne {a b ci : Nat} {gs : List Value} {x : ClassId × vp_A} (ha : f a = some (.inl x)) (hb : f b = some (eR ci gs)) : a ≠ b := hm_ne ha hb (fun q => by cases q)
theorem PLN.kept {S : Nat → Prop} (h : PLN Γ f pl ca2 sl2) (hf : hm_fr S f f') (h1 : ¬ S pl) (h2 : ¬ S ca2) (h3 : ∀ x, f sl2 = some (.inl x) → ¬ S sl2) : PLN Γ f' pl ca2 sl2 := by
  obtain ⟨⟨a, b, c, q⟩, en, E, cn, rm, us, hC⟩ := h
  obtain ⟨g, hg, -⟩ := hC.2.1
  exact ⟨⟨a, b, c, (hf _ h1).trans q⟩, en, E, cn, rm, us, hC.kept hf h2 (h3 _ hg) (fun i hi => absurd hi (Nat.not_lt_zero _))⟩
theorem PLN.opn (h : PLN Γ f pl ca2 sl2) : (∃ a, f pl = some (eR 5 a)) ∧ (∃ a, f ca2 = some (eR 1 a)) ∧ ∃ x, f sl2 = some (.inl x) := by
  obtain ⟨⟨a, b, c, q⟩, en, E, cn, rm, us, hC⟩ := h
  obtain ⟨g, hg, -⟩ := hC.2.1
  exact ⟨⟨_, q⟩, ⟨_, hC.1⟩, ⟨_, hg⟩⟩
/-- behind a search of the trial -/
theorem CD.trial (hCA : CA Γ f ca sl 64 en E cn rm us) (hCA1 : CA Γ f ca1 sl1 64 en1 E1 cn1 rm1 us1) (htr : f tr = some (eR 5 tf)) (hPL : PLN Γ f pl ca2 sl2) (h1 : ca ≠ ca1) (h12 : ca1 ≠ ca2) (htp : tr ≠ pl) (hdis : ∀ i j, i < 64 → j < 64 → en i ≠ en1 j) (hf : hm_fr (sS tr ca1 64 en1) f f') :
    CA Γ f' ca sl 64 en E cn rm us ∧ PLN Γ f' pl ca2 sl2 ∧ hm_kd (kX [1, 2, 5]) Γ f f' := by
  obtain ⟨⟨pa, hpl⟩, ⟨pc, hc2⟩, xs, hs2⟩ := hPL.opn
  obtain ⟨g, hg, -⟩ := hCA.2.1
  refine ⟨hCA.kept hf ?_ ?_ (fun i hi => ?_), hPL.kept hf ?_ ?_ (fun x hx => ?_), .ofk hf.k (fun q e hq he => ?_)⟩
  · rintro (z | z | ⟨j, hj, z⟩)
    · exact r_ne hCA.1 htr (by decide) z
    · exact h1 z
    · exact r_ne hCA.1 (hCA1.2.2.1 j hj) (by decide) z
  · rintro (z | z | ⟨j, hj, z⟩)
    · exact a_ne hg htr z
    · exact a_ne hg hCA1.1 z
    · exact a_ne hg (hCA1.2.2.1 j hj) z
  · rintro (z | z | ⟨j, hj, z⟩)
    · exact r_ne (hCA.2.2.1 i hi) htr (by decide) z
    · exact r_ne (hCA.2.2.1 i hi) hCA1.1 (by decide) z
    · exact hdis i j hi hj z
  · rintro (z | z | ⟨j, hj, z⟩)
    · exact htp z.symm
    · exact r_ne hpl hCA1.1 (by decide) z
    · exact r_ne hpl (hCA1.2.2.1 j hj) (by decide) z
  · rintro (z | z | ⟨j, hj, z⟩)
    · exact r_ne hc2 htr (by decide) z
    · exact h12 z.symm
    · exact r_ne hc2 (hCA1.2.2.1 j hj) (by decide) z
  · rintro (z | z | ⟨j, hj, z⟩)
    · exact a_ne hx htr z
    · exact a_ne hx hCA1.1 z
    · exact a_ne hx (hCA1.2.2.1 j hj) z
  · rcases hq with z | z | ⟨j, hj, z⟩
    · rw [z, htr] at he; injection he with he; rw [← he]; rfl
    · rw [z, hCA1.1] at he; injection he with he; rw [← he]; rfl
    · rw [z, hCA1.2.2.1 j hj] at he; injection he with he; rw [← he]; rfl
theorem pS_CA {c sl n : Nat} {pa pc : List Value} (hC : CA Γ f c sl n en E cn rm us) (hpl : f pl = some (eR 5 pa)) (hc2 : f ca2 = some (eR 1 pc)) (h : c ≠ ca2) (hf : hm_fr (pS pl ca2) f f') : CA Γ f' c sl n en E cn rm us := by
  obtain ⟨g, hg, -⟩ := hC.2.1
  refine hC.kept hf ?_ ?_ (fun i hi => ?_)
  · rintro (z | z)
    · exact r_ne hC.1 hpl (by decide) z
    · exact h z
  · rintro (z | z)
    · exact a_ne hg hpl z
    · exact a_ne hg hc2 z
  · rintro (z | z)
    · exact r_ne (hC.2.2.1 i hi) hpl (by decide) z
    · exact r_ne (hC.2.2.1 i hi) hc2 (by decide) z
theorem pS_kd {pa pc : List Value} (hpl : f pl = some (eR 5 pa)) (hc2 : f ca2 = some (eR 1 pc)) (hf : hm_fr (pS pl ca2) f f') : hm_kd (kX [1, 5]) Γ f f' := .ofk hf.k (fun q e hq he => by
  rcases hq with z | z
  · rw [z, hpl] at he; injection he with he; rw [← he]; rfl
  · rw [z, hc2] at he; injection he with he; rw [← he]; rfl)
end CDs
set_option maxHeartbeats 4000000 in
set_option maxRecDepth 100000 in
theorem t_X7_worth (Γ : Gm) (l : Launch) (x0 : Nat) (mf : Nat → Int32) (E : Nat → EV) (cn us : Int32) (so sh sm : Int64) (np : Nat) (mon : Nat → Int32) (ng : Nat) (gs : Nat → GS) (nt : Nat) (ts : Nat → TR) (lim : Int32) (rf sp : Int64) (rr : Nat) (v0 v1 : Int32) (f : Hm) (hst : l.stackTraces = false) (hC : CW Γ f x0 mf E cn us so sh sm np mon ng gs nt ts lim rf sp rr) (hnp : np ≤ 4) (hng : ng ≤ 8) (hnt : nt ≤ 60) (hr1 : 1 ≤ rr) (hrr : rr ≤ 64) (hgs : GOK np ng gs) : Cx Γ l yX7_worth cX7_worth 4 (some .int) 13 2 12 [.ref x0, .int v0, .int v1] f (cP (if inB v0 (nI ng) then (if inR v1 0 4 then 0 else 2) else 1) (nI (wp (ix v1) (gs (ix v0)).2.1 (gs (ix v0)).2.2.1).1) Γ f (fun f' => CW Γ f' x0 mf E cn us so sh sm np mon ng gs nt ts lim rf sp rr)) (cY [("java/lang/IndexOutOfBoundsException", 1), ("java/lang/IllegalArgumentException", 2)] (if inB v0 (nI ng) then (if inR v1 0 4 then 0 else 2) else 1) Γ f (fun f' => CW Γ f' x0 mf E cn us so sh sm np mon ng gs nt ts lim rf sp rr)) := by
  refine Cx_of (by decide +kernel) (Nat.le_of_ble_eq_true rfl) ?_
  intro p e s m args below meth c hx hb hr hml hown hin hlocks hout hts hH hO hK ls hl
  have hl0 := hl
  have hl : lv_has ls 4 [(0, .ref x0), (1, .int v0), (2, .int v1)] := hl
  have hS : va_S (gA Γ) s.heap s.heap [] := va_S.rf
  obtain ⟨lp, lg, lt, ca, tr, pl, hCL, hCD⟩ := id hC
  obtain ⟨hx0, aP, cp_, P, aG, cg_, G, aT, ct_, T, ⟨hLP, hcP, hP, hPj⟩, ⟨hLG, hcG, hG, hGj⟩, ⟨hLT, hcT, hT⟩, ⟨hpg, hpt, hgt⟩, hPG, hPT, hGT⟩ := id hCL
  obtain ⟨⟨moP, hlP⟩, -⟩ := id hLP
  obtain ⟨⟨moG, hlG⟩, -⟩ := id hLG
  obtain ⟨⟨moT, hlT⟩, -⟩ := id hLT
  have h34 := hm_c34 hK
  obtain ⟨sl, en, ca1, sl1, en1, E1, cn1, rm1, us1, u1, u2, u3, ca2, sl2, hCA, hCA1, htr, hPL, ⟨hca1, hca2, hca12, htrpl⟩, hdis⟩ := id hCD
  refine lv_aload_n hx hb dX7_worth_0 rfl (lv_at hl 0 rfl) ?_
  refine lv_iload_n hx hb dX7_worth_1 rfl (lv_at hl 1 rfl) ?_
  refine hm_xV (rest := []) (k := 4) q3_80 q3_82 q1_1 q3_83 q0_5 rfl nm_X7_findGame rfl hx hb hml hown hts hK hO hS hH hl.1 hx0 hout hlocks (c_findGame Γ l x0 lp lg lt ca tr pl lim rf so sp sh sm aG cg_ ng G v0 f hst hx0 hLG (by omega) (by omega) (fun i hi => ⟨_, hG i hi⟩)) (fun E f' h_ => by obtain ⟨rfl, hno, rfl⟩ := h_; have hb0 := inB_no (by omega) hno; exact ⟨by rw [hb0]; exact (show (1 : Int32) ≠ 0 by decide), by rw [hb0]; exact (Or.inl ⟨rfl, rfl⟩), hC, hm_kd.rf⟩) ⟨Nat.le_of_ble_eq_true rfl, Nat.le_of_ble_eq_true rfl⟩ ⟨Nat.le_of_ble_eq_true rfl, Nat.le_of_ble_eq_true rfl⟩ ⟨Nat.le_of_ble_eq_true rfl, Nat.le_of_ble_eq_true rfl⟩ rfl (Nat.le_of_ble_eq_true rfl) dX7_worth_2 (fun v_ f_ H locs hp_ hH hS => ?_)
  obtain ⟨i, hi, rfl, rfl, ef_⟩ := hp_
  rw [ef_] at hH
  clear ef_
  refine W.eq (g2 := F0 m 5 ls [.ref ((G i))]) rfl ?_
  have hb1 := inB_yes (n := ng) (by omega) hi
  have hix : ix (nI i) = i := ix_nI (by omega)
  have hGi := hG i hi
  obtain ⟨hgo, hgw, hgz⟩ := hgs i hi
  have hi8 : i < 8 := by omega
  have ht31 : tl 31 (gs i).2.1 := tl31 (by omega)
  refine lv_astore_n (lv' := [(3, .ref ((G i))), (0, .ref x0), (1, .int (nI i)), (2, .int v1)]) hx hb dX7_worth_5 rfl hl (by decide) rfl (fun ls hl => ?_)
  refine lv_iload_n hx hb dX7_worth_6 rfl (lv_at hl 3 rfl) ?_
  refine lv_iconst (v := 0) hx hb dX7_worth_7 (by decide) ?_
  refine hm_xS (rest := []) (k := 2) q3_152 q3_153 q1_1 q3_154 nm_X7_checkDepth rfl hx hb hml hown hts hK hO hS hH hl.1 hout hlocks (c_checkDepth Γ l v1 0 f hst (by decide)) (fun E f' h_ => by obtain ⟨rfl, hno, rfl⟩ := h_; have hb0 := inR_no0 hno; exact ⟨by rw [hb1]; (try rw [hix]); rw [hb0]; exact (show (2 : Int32) ≠ 0 by decide), by rw [hb1]; (try rw [hix]); rw [hb0]; exact (Or.inr (Or.inl ⟨rfl, rfl⟩)), hC, hm_kd.rf⟩) ⟨Nat.le_of_ble_eq_true rfl, Nat.le_of_ble_eq_true rfl⟩ ⟨Nat.le_of_ble_eq_true rfl, Nat.le_of_ble_eq_true rfl⟩ ⟨Nat.le_of_ble_eq_true rfl, Nat.le_of_ble_eq_true rfl⟩ rfl (Nat.le_of_ble_eq_true rfl) dX7_worth_8 (fun v_ f_ H locs hp_ hH hS => ?_)
  obtain ⟨rfl, ⟨d, hd1, hd4, rfl⟩, ef_⟩ := hp_
  rw [ef_] at hH
  clear ef_
  refine W.eq (g2 := F0 m 11 ls []) rfl ?_
  have hb2 := inR_yes0 hd4
  have hid : ix (nI d) = d := ix_nI (by omega)
  refine lv_aload_n hx hb dX7_worth_11 rfl (lv_at hl 1 rfl) ?_
  refine gf_X7_40 hx hb hts hown hK hH hx0 rfl dX7_worth_12 ?_
  refine lv_aload_n hx hb dX7_worth_15 rfl (lv_at hl 0 rfl) ?_
  refine gf_X7_112 hx hb hts hown hK hH hGi rfl dX7_worth_16 ?_
  refine lv_aload_n hx hb dX7_worth_19 rfl (lv_at hl 0 rfl) ?_
  refine gf_X7_188 hx hb hts hown hK hH hGi rfl dX7_worth_20 ?_
  refine lv_iload_n hx hb dX7_worth_23 rfl (lv_at hl 3 rfl) ?_
  obtain ⟨⟨pa, hpl_⟩, ⟨pc_, hc2_⟩, -⟩ := hPL.opn
  refine hm_callS (rest := []) (k := 8 + d) q3_180 q3_181 q1_1 q3_182 nm_X7_look rfl hx hb hml hown hts hK hO hS hH hl.1 (c_lookP Γ l pl ca2 sl2 (gs i).2.1 (gs i).2.2.1 d f hPL hd4 hgz (by omega)) ⟨by show 10 * (8 + d) + 1 ≤ 130; omega, by show 8 + (13 + 11) + 200 * (8 + d) ≤ 2600; omega⟩ ⟨Nat.le_of_ble_eq_true rfl, Nat.le_of_ble_eq_true rfl⟩ rfl (Nat.le_of_ble_eq_true rfl) dX7_worth_24 (fun v3_ f3_ H locs hp_ hH hS => ?_)
  obtain ⟨rfl, hPL3, -, hfr3⟩ := hp_
  refine W.eq (g2 := F0 m 27 ls [.int (nI (wp d (gs i).2.1 (gs i).2.2.1).1)]) rfl ?_
  have hk3 := pS_kd (Γ := Γ) hpl_ hc2_ hfr3
  exact vx_ret (hm_iret hx hb hr hlocks hS hH (⟨by rw [hb1]; (try rw [hix]); rw [hb2]; (try rw [hid]); rfl, by rw [hix, hid], ⟨lp, lg, lt, ca, tr, pl, hCL.kpt h34 (kX_L hk3 rfl rfl rfl rfl rfl rfl), ⟨sl, en, ca1, sl1, en1, E1, cn1, rm1, us1, u1, u2, u3, ca2, sl2, pS_CA hCA hpl_ hc2_ hca2 hfr3, pS_CA hCA1 hpl_ hc2_ hca12 hfr3, (hfr3 _ (by rintro (z | z); exact htrpl z; exact r_ne htr hc2_ (by decide) z)).trans htr, hPL3, ⟨hca1, hca2, hca12, htrpl⟩, hdis⟩⟩, kX_M hk3 rfl rfl⟩) (Nat.le_of_ble_eq_true rfl) (Nat.le_of_ble_eq_true rfl) dX7_worth_27)
set_option maxHeartbeats 4000000 in
set_option maxRecDepth 100000 in
theorem t_X7_price (Γ : Gm) (l : Launch) (x0 : Nat) (mf : Nat → Int32) (E : Nat → EV) (cn us : Int32) (so sh sm : Int64) (np : Nat) (mon : Nat → Int32) (ng : Nat) (gs : Nat → GS) (nt : Nat) (ts : Nat → TR) (lim : Int32) (rf sp : Int64) (rr : Nat) (v0 v1 : Int32) (f : Hm) (hst : l.stackTraces = false) (hC : CW Γ f x0 mf E cn us so sh sm np mon ng gs nt ts lim rf sp rr) (hnp : np ≤ 4) (hng : ng ≤ 8) (hnt : nt ≤ 60) (hr1 : 1 ≤ rr) (hrr : rr ≤ 64) (hgs : GOK np ng gs) (hok : ∀ j, j < 64 → eok (E j)) : Cx Γ l yX7_price cX7_price 4 (some .int) 14 3 18 [.ref x0, .int v0, .int v1] f (cP (if inB v0 (nI ng) then (if inR v1 1 4 then (if (!(gs (ix v0)).2.2.2.2.2.2.2.2 && !ovN (gs (ix v0)).2.1) then 0 else 3) else 2) else 1) ((mxI (trS 64 (nI rr) (ix v1) (gs (ix v0)).2.1 (gs (ix v0)).2.2.1 (E, cn, us, 0, 0)).2.2.2.2 1)) Γ f (fun f' => CW Γ f' x0 mf E cn us so sh sm np mon ng gs nt ts lim rf sp rr)) (cY [("java/lang/IndexOutOfBoundsException", 1), ("java/lang/IllegalArgumentException", 2), ("java/lang/UnsupportedOperationException", 3)] (if inB v0 (nI ng) then (if inR v1 1 4 then (if (!(gs (ix v0)).2.2.2.2.2.2.2.2 && !ovN (gs (ix v0)).2.1) then 0 else 3) else 2) else 1) Γ f (fun f' => CW Γ f' x0 mf E cn us so sh sm np mon ng gs nt ts lim rf sp rr)) := by
  refine Cx_of (by decide +kernel) (Nat.le_of_ble_eq_true rfl) ?_
  intro p e s m args below meth c hx hb hr hml hown hin hlocks hout hts hH hO hK ls hl
  have hl0 := hl
  have hl : lv_has ls 4 [(0, .ref x0), (1, .int v0), (2, .int v1)] := hl
  have hS : va_S (gA Γ) s.heap s.heap [] := va_S.rf
  obtain ⟨lp, lg, lt, ca, tr, pl, hCL, hCD⟩ := id hC
  obtain ⟨hx0, aP, cp_, P, aG, cg_, G, aT, ct_, T, ⟨hLP, hcP, hP, hPj⟩, ⟨hLG, hcG, hG, hGj⟩, ⟨hLT, hcT, hT⟩, ⟨hpg, hpt, hgt⟩, hPG, hPT, hGT⟩ := id hCL
  obtain ⟨⟨moP, hlP⟩, -⟩ := id hLP
  obtain ⟨⟨moG, hlG⟩, -⟩ := id hLG
  obtain ⟨⟨moT, hlT⟩, -⟩ := id hLT
  have h34 := hm_c34 hK
  obtain ⟨sl, en, ca1, sl1, en1, E1, cn1, rm1, us1, u1, u2, u3, ca2, sl2, hCA, hCA1, htr, hPL, ⟨hca1, hca2, hca12, htrpl⟩, hdis⟩ := id hCD
  refine lv_aload_n hx hb dX7_price_0 rfl (lv_at hl 0 rfl) ?_
  refine lv_iload_n hx hb dX7_price_1 rfl (lv_at hl 1 rfl) ?_
  refine hm_xV (rest := []) (k := 4) q3_80 q3_82 q1_1 q3_83 q0_5 rfl nm_X7_findGame rfl hx hb hml hown hts hK hO hS hH hl.1 hx0 hout hlocks (c_findGame Γ l x0 lp lg lt ca tr pl lim rf so sp sh sm aG cg_ ng G v0 f hst hx0 hLG (by omega) (by omega) (fun i hi => ⟨_, hG i hi⟩)) (fun E f' h_ => by obtain ⟨rfl, hno, rfl⟩ := h_; have hb0 := inB_no (by omega) hno; exact ⟨by rw [hb0]; exact (show (1 : Int32) ≠ 0 by decide), by rw [hb0]; exact (Or.inl ⟨rfl, rfl⟩), hC, hm_kd.rf⟩) ⟨Nat.le_of_ble_eq_true rfl, Nat.le_of_ble_eq_true rfl⟩ ⟨Nat.le_of_ble_eq_true rfl, Nat.le_of_ble_eq_true rfl⟩ ⟨Nat.le_of_ble_eq_true rfl, Nat.le_of_ble_eq_true rfl⟩ rfl (Nat.le_of_ble_eq_true rfl) dX7_price_2 (fun v_ f_ H locs hp_ hH hS => ?_)
  obtain ⟨i, hi, rfl, rfl, ef_⟩ := hp_
  rw [ef_] at hH
  clear ef_
  refine W.eq (g2 := F0 m 5 ls [.ref ((G i))]) rfl ?_
  have hb1 := inB_yes (n := ng) (by omega) hi
  have hix : ix (nI i) = i := ix_nI (by omega)
  have hGi := hG i hi
  obtain ⟨hgo, hgw, hgz⟩ := hgs i hi
  have hi8 : i < 8 := by omega
  have ht31 : tl 31 (gs i).2.1 := tl31 (by omega)
  refine lv_astore_n (lv' := [(3, .ref ((G i))), (0, .ref x0), (1, .int (nI i)), (2, .int v1)]) hx hb dX7_price_5 rfl hl (by decide) rfl (fun ls hl => ?_)
  refine lv_iload_n hx hb dX7_price_6 rfl (lv_at hl 3 rfl) ?_
  refine lv_iconst (v := 1) hx hb dX7_price_7 (by decide) ?_
  refine hm_xS (rest := []) (k := 2) q3_152 q3_153 q1_1 q3_154 nm_X7_checkDepth rfl hx hb hml hown hts hK hO hS hH hl.1 hout hlocks (c_checkDepth Γ l v1 1 f hst (by decide)) (fun E f' h_ => by obtain ⟨rfl, hno, rfl⟩ := h_; have hb0 := inR_no hno; exact ⟨by rw [hb1]; (try rw [hix]); rw [hb0]; exact (show (2 : Int32) ≠ 0 by decide), by rw [hb1]; (try rw [hix]); rw [hb0]; exact (Or.inr (Or.inl ⟨rfl, rfl⟩)), hC, hm_kd.rf⟩) ⟨Nat.le_of_ble_eq_true rfl, Nat.le_of_ble_eq_true rfl⟩ ⟨Nat.le_of_ble_eq_true rfl, Nat.le_of_ble_eq_true rfl⟩ ⟨Nat.le_of_ble_eq_true rfl, Nat.le_of_ble_eq_true rfl⟩ rfl (Nat.le_of_ble_eq_true rfl) dX7_price_8 (fun v_ f_ H locs hp_ hH hS => ?_)
  obtain ⟨rfl, ⟨d, hd1, hd4, rfl⟩, ef_⟩ := hp_
  rw [ef_] at hH
  clear ef_
  refine W.eq (g2 := F0 m 11 ls []) rfl ?_
  have hb2 := inR_yes hd1 hd4
  have hid : ix (nI d) = d := ix_nI (by omega)
  refine lv_aload_n hx hb dX7_price_11 rfl (lv_at hl 0 rfl) ?_
  refine hm_xS (rest := []) (k := 7) q3_156 q3_157 q1_1 q3_158 nm_X7_checkHintable rfl hx hb hml hown hts hK hO hS hH hl.1 hout hlocks (c_checkHintable Γ l (G i) (P (gs i).1) _ _ _ _ _ _ (gs i).2.1 (gs i).2.2.1 (gs i).2.2.2.2.2.2.2.2 f hst ht31 hGi) (fun E f' h_ => by obtain ⟨rfl, hno, rfl⟩ := h_; have hb0 : (!(gs i).2.2.2.2.2.2.2.2 && !ovN (gs i).2.1) = false := by { rcases hno with h | h; rw [h]; rfl; rw [h, Bool.not_true, Bool.and_false] }; exact ⟨by rw [hb1]; (try rw [hix]); rw [hb2]; (try rw [hid]); rw [hb0]; exact (show (3 : Int32) ≠ 0 by decide), by rw [hb1]; (try rw [hix]); rw [hb2]; (try rw [hid]); rw [hb0]; exact (Or.inr (Or.inr (Or.inl ⟨rfl, rfl⟩))), hC, hm_kd.rf⟩) ⟨Nat.le_of_ble_eq_true rfl, Nat.le_of_ble_eq_true rfl⟩ ⟨Nat.le_of_ble_eq_true rfl, Nat.le_of_ble_eq_true rfl⟩ ⟨Nat.le_of_ble_eq_true rfl, Nat.le_of_ble_eq_true rfl⟩ rfl (Nat.le_of_ble_eq_true rfl) dX7_price_12 (fun v_ f_ H locs hp_ hH hS => ?_)
  obtain ⟨rfl, hvd, hov, ef_⟩ := hp_
  rw [ef_] at hH
  clear ef_
  refine W.eq (g2 := F0 m 15 ls []) rfl ?_
  have hb3 : (!(gs i).2.2.2.2.2.2.2.2 && !ovN (gs i).2.1) = true := by rw [hvd, hov]; rfl
  refine lv_aload_n hx hb dX7_price_15 rfl (lv_at hl 1 rfl) ?_
  refine lv_aload_n hx hb dX7_price_16 rfl (lv_at hl 0 rfl) ?_
  refine lv_iload_n hx hb dX7_price_17 rfl (lv_at hl 3 rfl) ?_
  refine hm_callV (rest := []) (k := 13) q3_164 q3_166 q1_1 q3_167 q0_7 rfl nm_X7_tryHint rfl hx hb hml hown hts hK hO hS hH hl.1 hx0 (c_tryHint Γ l x0 lp lg lt ca tr pl lim rf so sp sh sm sl en E cn (nI rr) us ca1 sl1 en1 E1 cn1 rm1 us1 u1 u2 u3 (G i) (P (gs i).1) _ _ _ _ _ _ (gs i).2.1 (gs i).2.2.1 (gs i).2.2.2.2.2.2.2.2 d f hx0 hCA hCA1 htr hca1 (fun i j hi hj => hdis j i hj hi) hok hGi hd1 hd4 hgz (by omega)) ⟨Nat.le_of_ble_eq_true rfl, Nat.le_of_ble_eq_true rfl⟩ ⟨Nat.le_of_ble_eq_true rfl, Nat.le_of_ble_eq_true rfl⟩ rfl (Nat.le_of_ble_eq_true rfl) dX7_price_18 (fun v3_ f3_ H locs hp_ hH hS => ?_)
  obtain ⟨rfl, hC3, htr3, hok3, hfr3⟩ := hp_
  refine W.eq (g2 := F0 m 21 ls []) rfl ?_
  obtain ⟨hCA3, hPL3, hk3⟩ := CD.trial hCA hCA1 htr hPL hca1 hca12 htrpl hdis hfr3
  have hL3 := kX_L hk3 rfl rfl rfl rfl rfl rfl
  have hx3 := hk3 _ _ hx0 rfl
  have hG3 := hk3 _ _ hGi rfl
  have hP3 := hk3 _ _ (hP _ hgo) rfl
  have hlT3 := hk3 _ _ hlT rfl
  have hCL3 := hCL.kpt h34 hL3
  have hC9 : CW Γ f3_ x0 mf E cn us so sh sm np mon ng gs nt ts lim rf sp rr := ⟨lp, lg, lt, ca, tr, pl, hCL3, ⟨sl, en, ca1, sl1, en1, _, _, _, _, _, _, _, ca2, sl2, hCA3, hC3, htr3, hPL3, ⟨hca1, hca2, hca12, htrpl⟩, hdis⟩⟩
  obtain ⟨TS, eTS⟩ : ∃ TS, TS = (trS 64 (nI rr) d (gs i).2.1 (gs i).2.2.1 (E, cn, us, 0, 0)) := ⟨_, rfl⟩
  rw [← eTS] at hC3 htr3 hok3
  refine lv_aload_n hx hb dX7_price_21 rfl (lv_at hl 1 rfl) ?_
  refine gf_X7_36 hx hb hts hown hK hH hx3 rfl dX7_price_22 ?_
  refine hm_callV (rest := []) (k := 2) q3_216 q3_217 q1_8 q3_219 q3_218 rfl nm_X5_cost rfl hx hb hml hown hts hK hO hS hH hl.1 htr3 (c_X5_cost Γ l tr ca1 _ _ _ f3_ htr3) ⟨Nat.le_of_ble_eq_true rfl, Nat.le_of_ble_eq_true rfl⟩ ⟨Nat.le_of_ble_eq_true rfl, Nat.le_of_ble_eq_true rfl⟩ rfl (Nat.le_of_ble_eq_true rfl) dX7_price_25 (fun v_ f_ H locs hp_ hH hS => ?_)
  obtain ⟨rfl, ef_⟩ := hp_
  rw [ef_] at hH
  clear ef_
  refine W.eq (g2 := F0 m 28 ls [.int ((mxI TS.2.2.2.2 1))]) rfl ?_
  exact vx_ret (hm_iret hx hb hr hlocks hS hH (⟨by rw [hb1]; (try rw [hix]); rw [hb2]; (try rw [hid]); rw [hb3]; rfl, by rw [hix, hid, ← eTS], hC9, kX_M hk3 rfl rfl⟩) (Nat.le_of_ble_eq_true rfl) (Nat.le_of_ble_eq_true rfl) dX7_price_28)
