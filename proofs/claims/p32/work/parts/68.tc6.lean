/-! TileWarden: setRoom, isCached, pin, unpin, judge -/
section CDo
variable {Γ : Gm} {f f' : Hm} {ca tr pl sl ca1 sl1 ca2 sl2 : Nat} {en en1 : Nat → Nat} {E E1 : Nat → EV} {cn rm us cn1 rm1 us1 : Int32} {tf : List Value}
/-- behind a change of the cache itself -/
theorem CD.own (hCA : CA Γ f ca sl 64 en E cn rm us) (hCA1 : CA Γ f ca1 sl1 64 en1 E1 cn1 rm1 us1) (htr : f tr = some (eR 5 tf)) (hPL : PLN Γ f pl ca2 sl2) (h1 : ca ≠ ca1) (h2 : ca ≠ ca2) (hdis : ∀ i j, i < 64 → j < 64 → en i ≠ en1 j) (hf : hm_fr (cS ca 64 en) f f') :
    CA Γ f' ca1 sl1 64 en1 E1 cn1 rm1 us1 ∧ f' tr = some (eR 5 tf) ∧ PLN Γ f' pl ca2 sl2 ∧ hm_kd (kX [1, 2]) Γ f f' := by
  obtain ⟨⟨pa, hpl⟩, ⟨pc, hc2⟩, xs, hs2⟩ := hPL.opn
  obtain ⟨g, hg, -⟩ := hCA1.2.1
  have hna : ∀ q x, f q = some (.inl x) → ¬ cS ca 64 en q := by
    rintro q x hq (z | ⟨j, hj, z⟩)
    · exact a_ne hq hCA.1 z
    · exact a_ne hq (hCA.2.2.1 j hj) z
  refine ⟨hCA1.kept hf ?_ (hna _ _ hg) (fun i hi => ?_), (hf _ (cS_not hCA htr (by decide) (by decide))).trans htr, hPL.kept hf (cS_not hCA hpl (by decide) (by decide)) ?_ (fun x hx => hna _ _ hx), .ofk hf.k (fun q e hq he => ?_)⟩
  · rintro (z | ⟨j, hj, z⟩)
    · exact h1 z.symm
    · exact r_ne hCA1.1 (hCA.2.2.1 j hj) (by decide) z
  · rintro (z | ⟨j, hj, z⟩)
    · exact r_ne (hCA1.2.2.1 i hi) hCA.1 (by decide) z
    · exact hdis j i hj hi z.symm
  · rintro (z | ⟨j, hj, z⟩)
    · exact h2 z.symm
    · exact r_ne hc2 (hCA.2.2.1 j hj) (by decide) z
  · rcases hq with z | ⟨j, hj, z⟩
    · rw [z, hCA.1] at he; injection he with he; rw [← he]; rfl
    · rw [z, hCA.2.2.1 j hj] at he; injection he with he; rw [← he]; rfl
end CDo
theorem pin2 (E : Nat → EV) {g : Nat} (hg : g < 8) (n : Nat) : cntP (fun j => decide ((E j).2.2.2.2.2.2 &&& (1 <<< (nI g &&& 31)) ≠ 0)) n = cntP (fun j => bt (E j).2.2.2.2.2.2 g) n := by
  congr 1
  funext j
  exact m_pin2 _ (by omega)
def pinE (E : Nat → EV) (o : Option Nat) (g : Nat) : Nat → EV := match o with
  | none => E
  | some a => updE E a (setP (E a) ((E a).2.2.2.2.2.2 ||| (1 <<< (nI g &&& 31))))
set_option maxHeartbeats 4000000 in
set_option maxRecDepth 100000 in
theorem t_X7_setRoom (Γ : Gm) (l : Launch) (x0 : Nat) (mf : Nat → Int32) (E : Nat → EV) (cn us : Int32) (so sh sm : Int64) (np : Nat) (mon : Nat → Int32) (ng : Nat) (gs : Nat → GS) (nt : Nat) (ts : Nat → TR) (lim : Int32) (rf sp : Int64) (rr : Nat) (v0 : Int32) (f : Hm) (hst : l.stackTraces = false) (hC : CW Γ f x0 mf E cn us so sh sm np mon ng gs nt ts lim rf sp rr) (hnp : np ≤ 4) (hng : ng ≤ 8) (hnt : nt ≤ 60) (hr1 : 1 ≤ rr) (hrr : rr ≤ 64) (hgs : GOK np ng gs) (kp : Nat) (hkp : kp ≤ 64) (hcn : cn = nI kp) : Cx Γ l yX7_setRoom cX7_setRoom 2 (some .int) 4 1 6 [.ref x0, .int v0] f (cP (if inR v0 1 64 then (if decide (cntP (pnB E) 64 ≤ ix v0) then 0 else 2) else 1) ((dropK 64 (kp - ix v0) (E, nI kp)).2) Γ f (fun f' => CW Γ f' x0 mf ((dropK 64 (kp - ix v0) (E, nI kp)).1) ((dropK 64 (kp - ix v0) (E, nI kp)).2) us so sh sm np mon ng gs nt ts lim rf sp ((ix v0)))) (cY [("java/lang/IllegalArgumentException", 1), ("java/lang/UnsupportedOperationException", 2)] (if inR v0 1 64 then (if decide (cntP (pnB E) 64 ≤ ix v0) then 0 else 2) else 1) Γ f (fun f' => CW Γ f' x0 mf E cn us so sh sm np mon ng gs nt ts lim rf sp rr)) := by
  refine Cx_of (by decide +kernel) (Nat.le_of_ble_eq_true rfl) ?_
  intro p e s m args below meth c hx hb hr hml hown hin hlocks hout hts hH hO hK ls hl
  have hl0 := hl
  have hl : lv_has ls 2 [(0, .ref x0), (1, .int v0)] := hl
  have hS : va_S (gA Γ) s.heap s.heap [] := va_S.rf
  obtain ⟨lp, lg, lt, ca, tr, pl, hCL, hCD⟩ := id hC
  obtain ⟨hx0, aP, cp_, P, aG, cg_, G, aT, ct_, T, ⟨hLP, hcP, hP, hPj⟩, ⟨hLG, hcG, hG, hGj⟩, ⟨hLT, hcT, hT⟩, ⟨hpg, hpt, hgt⟩, hPG, hPT, hGT⟩ := id hCL
  obtain ⟨⟨moP, hlP⟩, -⟩ := id hLP
  obtain ⟨⟨moG, hlG⟩, -⟩ := id hLG
  obtain ⟨⟨moT, hlT⟩, -⟩ := id hLT
  have h34 := hm_c34 hK
  obtain ⟨sl, en, ca1, sl1, en1, E1, cn1, rm1, us1, u1, u2, u3, ca2, sl2, hCA, hCA1, htr, hPL, ⟨hca1, hca2, hca12, htrpl⟩, hdis⟩ := id hCD
  rw [hcn] at hCA
  refine lv_iload_n hx hb dX7_setRoom_0 rfl (lv_at hl 1 rfl) ?_
  refine lv_iconst (v := 1) hx hb dX7_setRoom_1 (by decide) ?_
  refine lv_icmp_lt (tgt := 11) hx hb dX7_setRoom_2 (by decide) (fun c1 => ?_) (fun c1 => ?_)
  · exact hm_thr hx hb hst hml hl.1 hown q2_8 q1_12 (text := "the room is out of range") (by decide) xA_IA (by decide +kernel) hts hK hO hS hH dX7_setRoom_11 dX7_setRoom_14 dX7_setRoom_15 dX7_setRoom_17 dX7_setRoom_20 hout hlocks (by have hb0 : inR v0 1 64 = false := (by unfold inR; rw [decide_eq_false (Int32.not_le.mpr c1)]; rfl); exact ⟨by rw [hb0]; exact (show (1 : Int32) ≠ 0 by decide), by rw [hb0]; exact (Or.inl ⟨rfl, rfl⟩), hC, hm_kd.rf⟩) (Nat.le_of_ble_eq_true rfl) (Nat.le_of_ble_eq_true rfl) (Nat.le_of_ble_eq_true rfl) (Nat.le_of_ble_eq_true rfl) (Nat.le_of_ble_eq_true rfl) (Nat.le_of_ble_eq_true rfl)
  · refine lv_iload_n hx hb dX7_setRoom_5 rfl (lv_at hl 1 rfl) ?_
    refine lv_bipush (v := 64) hx hb dX7_setRoom_6 (by decide) ?_
    refine lv_icmp_le (tgt := 21) hx hb dX7_setRoom_8 (by decide) (fun c2 => ?_) (fun c2 => ?_)
    · have hb1 : inR v0 1 64 = true := by unfold inR; rw [decide_eq_true (Int32.not_lt.mp c1), decide_eq_true c2]; rfl
      obtain ⟨q, hq64, rfl⟩ : ∃ q, (1 ≤ q ∧ q ≤ 64) ∧ v0 = nI q := by
        obtain ⟨j, hj, e⟩ := nI_of (fun z => absurd (Int32.lt_of_lt_of_le z (by decide : (0 : Int32) ≤ 1)) c1 : ¬ v0 < 0)
        refine ⟨j, ⟨?_, ?_⟩, e⟩
        · exact (nI_leI (a := 1) (by decide) hj).mp (by rw [← e]; exact Int32.not_lt.mp c1)
        · exact (nI_leI (b := 64) hj (by decide)).mp (by rw [← e]; exact c2)
      have hiq : ix (nI q) = q := ix_nI (by omega)
      refine lv_aload_n hx hb dX7_setRoom_21 rfl (lv_at hl 0 rfl) ?_
      refine gf_X7_27 hx hb hts hown hK hH hx0 rfl dX7_setRoom_22 ?_
      refine hm_callV (rest := []) (k := 1) q4_39 q4_40 q1_5 q4_42 q4_41 rfl nm_X1_countPinned rfl hx hb hml hown hts hK hO hS hH hl.1 hCA.1 (c_X1_countPinned Γ l ca sl 64 en E (nI kp) (nI rr) us f hCA (by decide)) ⟨Nat.le_of_ble_eq_true rfl, Nat.le_of_ble_eq_true rfl⟩ ⟨Nat.le_of_ble_eq_true rfl, Nat.le_of_ble_eq_true rfl⟩ rfl (Nat.le_of_ble_eq_true rfl) dX7_setRoom_25 (fun v_ f_ H locs hp_ hH hS => ?_)
      obtain ⟨rfl, ef_⟩ := hp_
      rw [ef_] at hH
      clear ef_
      refine W.eq (g2 := F0 m 28 ls [.int (nI (cntP (pnB E) 64))]) rfl ?_
      refine lv_iload_n hx hb dX7_setRoom_28 rfl (lv_at hl 1 rfl) ?_
      refine lv_icmp_le (tgt := 42) hx hb dX7_setRoom_29 (by decide) (fun c3 => ?_) (fun c3 => ?_)
      · have hb2 : decide (cntP (pnB E) 64 ≤ q) = true := decide_eq_true ((nI_leI (by have := cntP_le (pnB E) 64; omega) (by omega)).mp c3)
        refine lv_aload_n hx hb dX7_setRoom_42 rfl (lv_at hl 0 rfl) ?_
        refine gf_X7_27 hx hb hts hown hK hH hx0 rfl dX7_setRoom_43 ?_
        refine lv_iload_n hx hb dX7_setRoom_46 rfl (lv_at hl 1 rfl) ?_
        refine hm_callV (rest := []) (k := 3) q4_44 q4_45 q1_5 q4_47 q4_46 rfl nm_X1_fitInto rfl hx hb hml hown hts hK hO hS hH hl.1 hCA.1 (c_X1_fitInto Γ l ca sl 64 en E kp q (nI rr) us f hCA (by decide) (by omega) hq64.2) ⟨Nat.le_of_ble_eq_true rfl, Nat.le_of_ble_eq_true rfl⟩ ⟨Nat.le_of_ble_eq_true rfl, Nat.le_of_ble_eq_true rfl⟩ rfl (Nat.le_of_ble_eq_true rfl) dX7_setRoom_47 (fun v_ f4_ H locs hp_ hH hS => ?_)
        obtain ⟨rfl, hCA4, hfr4⟩ := hp_
        refine W.eq (g2 := F0 m 50 ls []) rfl ?_
        have ⟨hCA14, htr4, hPL4, hk4⟩ := CD.own hCA hCA1 htr hPL hca1 hca2 hdis hfr4
        have hx4 := hk4 _ _ hx0 rfl
        refine lv_aload_n hx hb dX7_setRoom_50 rfl (lv_at hl 0 rfl) ?_
        refine gf_X7_27 hx hb hts hown hK hH hx4 rfl dX7_setRoom_51 ?_
        refine gf_X7_205 hx hb hts hown hK hH hCA4.1 rfl dX7_setRoom_54 ?_
        exact vx_ret (hm_iret hx hb hr hlocks hS hH (⟨by rw [hb1]; rw [hiq]; rw [hb2]; rfl, by rw [hiq], (by rw [hiq]; exact ⟨lp, lg, lt, ca, tr, pl, hCL.kpt h34 (kX_L hk4 rfl rfl rfl rfl rfl rfl), ⟨sl, en, ca1, sl1, en1, E1, cn1, rm1, us1, u1, u2, u3, ca2, sl2, hCA4, hCA14, htr4, hPL4, ⟨hca1, hca2, hca12, htrpl⟩, hdis⟩⟩), kX_M hk4 rfl rfl⟩) (Nat.le_of_ble_eq_true rfl) (Nat.le_of_ble_eq_true rfl) dX7_setRoom_57)
      · exact hm_thr hx hb hst hml hl.1 hown q3_110 q1_25 (text := "more entries are pinned") (by decide) xA_UO (by decide +kernel) hts hK hO hS hH dX7_setRoom_32 dX7_setRoom_35 dX7_setRoom_36 dX7_setRoom_38 dX7_setRoom_41 hout hlocks (by have hb0 : decide (cntP (pnB E) 64 ≤ q) = false := (decide_eq_false (fun z => c3 (nI_le (a := cntP (pnB E) 64) (b := q) z (by omega)))); exact ⟨by rw [hb1]; rw [hiq]; rw [hb0]; exact (show (2 : Int32) ≠ 0 by decide), by rw [hb1]; rw [hiq]; rw [hb0]; exact (Or.inr (Or.inl ⟨rfl, rfl⟩)), hC, hm_kd.rf⟩) (Nat.le_of_ble_eq_true rfl) (Nat.le_of_ble_eq_true rfl) (Nat.le_of_ble_eq_true rfl) (Nat.le_of_ble_eq_true rfl) (Nat.le_of_ble_eq_true rfl) (Nat.le_of_ble_eq_true rfl)
    · exact hm_thr hx hb hst hml hl.1 hown q2_8 q1_12 (text := "the room is out of range") (by decide) xA_IA (by decide +kernel) hts hK hO hS hH dX7_setRoom_11 dX7_setRoom_14 dX7_setRoom_15 dX7_setRoom_17 dX7_setRoom_20 hout hlocks (by have hb0 : inR v0 1 64 = false := (by unfold inR; rw [decide_eq_false (p := v0 ≤ 64) c2, Bool.and_false]); exact ⟨by rw [hb0]; exact (show (1 : Int32) ≠ 0 by decide), by rw [hb0]; exact (Or.inl ⟨rfl, rfl⟩), hC, hm_kd.rf⟩) (Nat.le_of_ble_eq_true rfl) (Nat.le_of_ble_eq_true rfl) (Nat.le_of_ble_eq_true rfl) (Nat.le_of_ble_eq_true rfl) (Nat.le_of_ble_eq_true rfl) (Nat.le_of_ble_eq_true rfl)
set_option maxHeartbeats 4000000 in
set_option maxRecDepth 100000 in
theorem t_X7_isCached (Γ : Gm) (l : Launch) (x0 : Nat) (mf : Nat → Int32) (E : Nat → EV) (cn us : Int32) (so sh sm : Int64) (np : Nat) (mon : Nat → Int32) (ng : Nat) (gs : Nat → GS) (nt : Nat) (ts : Nat → TR) (lim : Int32) (rf sp : Int64) (rr : Nat) (v0 v1 : Int32) (f : Hm) (hst : l.stackTraces = false) (hC : CW Γ f x0 mf E cn us so sh sm np mon ng gs nt ts lim rf sp rr) (hnp : np ≤ 4) (hng : ng ≤ 8) (hnt : nt ≤ 60) (hr1 : 1 ≤ rr) (hrr : rr ≤ 64) (hgs : GOK np ng gs) : Cx Γ l yX7_isCached cX7_isCached 4 (some .boolean) 6 2 12 [.ref x0, .int v0, .int v1] f (cP (if inB v0 (nI ng) then (if inR v1 1 4 then 0 else 2) else 1) (bI ((fstP (fun j => isFor (E j) (b5 (gs (ix v0)).2.1) (nI (gs (ix v0)).2.2.1) v1) 64).isSome)) Γ f (fun f' => CW Γ f' x0 mf E cn us so sh sm np mon ng gs nt ts lim rf sp rr)) (cY [("java/lang/IndexOutOfBoundsException", 1), ("java/lang/IllegalArgumentException", 2)] (if inB v0 (nI ng) then (if inR v1 1 4 then 0 else 2) else 1) Γ f (fun f' => CW Γ f' x0 mf E cn us so sh sm np mon ng gs nt ts lim rf sp rr)) := by
  refine Cx_of (by decide +kernel) (Nat.le_of_ble_eq_true rfl) ?_
  intro p e s m args below meth c hx hb hr hml hown hin hlocks hout hts hH hO hK ls hl
  have hl0 := hl
  have hl : lv_has ls 4 [(0, .ref x0), (1, .int v0), (2, .int v1)] := hl
  have hS : va_S (gA Γ) s.heap s.heap [] := va_S.rf
  obtain ⟨lp, lg, lt, ca, tr, pl, hCL, hCD⟩ := id hC
  obtain ⟨hx0, aP, cp_, P, aG, cg_, G, aT, ct_, T, ⟨hLP, hcP, hP, hPj⟩, ⟨hLG, hcG, hG, hGj⟩, ⟨hLT, hcT, hT⟩, ⟨hpg, hpt, hgt⟩, hPG, hPT, hGT⟩ := id hCL
  obtain ⟨⟨moP, hlP⟩, -⟩ := id hLP
  obtain ⟨⟨moG, hlG⟩, -⟩ := id hLG
  obtain ⟨⟨moT, hlT⟩, -⟩ := id hLT
  have h34 := hm_c34 hK
  obtain ⟨sl, en, ca1, sl1, en1, E1, cn1, rm1, us1, u1, u2, u3, ca2, sl2, hCA, hCA1, htr, hPL, ⟨hca1, hca2, hca12, htrpl⟩, hdis⟩ := id hCD
  refine lv_aload_n hx hb dX7_isCached_0 rfl (lv_at hl 0 rfl) ?_
  refine lv_iload_n hx hb dX7_isCached_1 rfl (lv_at hl 1 rfl) ?_
  refine hm_xV (rest := []) (k := 4) q3_80 q3_82 q1_1 q3_83 q0_5 rfl nm_X7_findGame rfl hx hb hml hown hts hK hO hS hH hl.1 hx0 hout hlocks (c_findGame Γ l x0 lp lg lt ca tr pl lim rf so sp sh sm aG cg_ ng G v0 f hst hx0 hLG (by omega) (by omega) (fun i hi => ⟨_, hG i hi⟩)) (fun E f' h_ => by obtain ⟨rfl, hno, rfl⟩ := h_; have hb0 := inB_no (by omega) hno; exact ⟨by rw [hb0]; exact (show (1 : Int32) ≠ 0 by decide), by rw [hb0]; exact (Or.inl ⟨rfl, rfl⟩), hC, hm_kd.rf⟩) ⟨Nat.le_of_ble_eq_true rfl, Nat.le_of_ble_eq_true rfl⟩ ⟨Nat.le_of_ble_eq_true rfl, Nat.le_of_ble_eq_true rfl⟩ ⟨Nat.le_of_ble_eq_true rfl, Nat.le_of_ble_eq_true rfl⟩ rfl (Nat.le_of_ble_eq_true rfl) dX7_isCached_2 (fun v_ f_ H locs hp_ hH hS => ?_)
  obtain ⟨i, hi, rfl, rfl, ef_⟩ := hp_
  rw [ef_] at hH
  clear ef_
  refine W.eq (g2 := F0 m 5 ls [.ref ((G i))]) rfl ?_
  have hb1 := inB_yes (n := ng) (by omega) hi
  have hix : ix (nI i) = i := ix_nI (by omega)
  have hGi := hG i hi
  obtain ⟨hgo, hgw, hgz⟩ := hgs i hi
  have hi8 : i < 8 := by omega
  have ht31 : tl 31 (gs i).2.1 := tl31 (by omega)
  refine lv_astore_n (lv' := [(3, .ref ((G i))), (0, .ref x0), (1, .int (nI i)), (2, .int v1)]) hx hb dX7_isCached_5 rfl hl (by decide) rfl (fun ls hl => ?_)
  refine lv_iload_n hx hb dX7_isCached_6 rfl (lv_at hl 3 rfl) ?_
  refine lv_iconst (v := 1) hx hb dX7_isCached_7 (by decide) ?_
  refine hm_xS (rest := []) (k := 2) q3_152 q3_153 q1_1 q3_154 nm_X7_checkDepth rfl hx hb hml hown hts hK hO hS hH hl.1 hout hlocks (c_checkDepth Γ l v1 1 f hst (by decide)) (fun E f' h_ => by obtain ⟨rfl, hno, rfl⟩ := h_; have hb0 := inR_no hno; exact ⟨by rw [hb1]; (try rw [hix]); rw [hb0]; exact (show (2 : Int32) ≠ 0 by decide), by rw [hb1]; (try rw [hix]); rw [hb0]; exact (Or.inr (Or.inl ⟨rfl, rfl⟩)), hC, hm_kd.rf⟩) ⟨Nat.le_of_ble_eq_true rfl, Nat.le_of_ble_eq_true rfl⟩ ⟨Nat.le_of_ble_eq_true rfl, Nat.le_of_ble_eq_true rfl⟩ ⟨Nat.le_of_ble_eq_true rfl, Nat.le_of_ble_eq_true rfl⟩ rfl (Nat.le_of_ble_eq_true rfl) dX7_isCached_8 (fun v_ f_ H locs hp_ hH hS => ?_)
  obtain ⟨rfl, ⟨d, hd1, hd4, rfl⟩, ef_⟩ := hp_
  rw [ef_] at hH
  clear ef_
  refine W.eq (g2 := F0 m 11 ls []) rfl ?_
  have hb2 := inR_yes hd1 hd4
  have hid : ix (nI d) = d := ix_nI (by omega)
  refine lv_aload_n hx hb dX7_isCached_11 rfl (lv_at hl 1 rfl) ?_
  refine gf_X7_27 hx hb hts hown hK hH hx0 rfl dX7_isCached_12 ?_
  refine lv_aload_n hx hb dX7_isCached_15 rfl (lv_at hl 0 rfl) ?_
  refine gf_X7_112 hx hb hts hown hK hH hGi rfl dX7_isCached_16 ?_
  refine lv_aload_n hx hb dX7_isCached_19 rfl (lv_at hl 0 rfl) ?_
  refine gf_X7_188 hx hb hts hown hK hH hGi rfl dX7_isCached_20 ?_
  refine lv_iload_n hx hb dX7_isCached_23 rfl (lv_at hl 3 rfl) ?_
  refine hm_callV (rest := []) (k := 2) q3_183 q3_184 q1_5 q3_186 q3_185 rfl nm_X1_find rfl hx hb hml hown hts hK hO hS hH hl.1 hCA.1 (c_X1_find Γ l (b5 (gs i).2.1) (nI (gs i).2.2.1) (nI d) ca sl 64 en E cn (nI rr) us f hCA (by decide)) ⟨Nat.le_of_ble_eq_true rfl, Nat.le_of_ble_eq_true rfl⟩ ⟨Nat.le_of_ble_eq_true rfl, Nat.le_of_ble_eq_true rfl⟩ rfl (Nat.le_of_ble_eq_true rfl) dX7_isCached_24 (fun v_ f_ H locs hp_ hH hS => ?_)
  obtain ⟨hp_, ef_⟩ := hp_
  rw [ef_] at hH
  clear ef_
  rcases hp_ with ⟨rfl, hno⟩ | ⟨a, ha, hpa, hpj, rfl⟩
  · refine W.eq (g2 := F0 m 27 ls [.null]) rfl ?_
    have hfd : (fstP (fun j => isFor (E j) (b5 (gs i).2.1) (nI (gs i).2.2.1) (nI d)) 64).isSome = false := fI_none hno
    refine lv_ifnullN (tgt := 34) hx hb dX7_isCached_27 (by decide) ?_
    refine lv_iconst (v := 0) hx hb dX7_isCached_34 (by decide) ?_
    exact vx_ret (hm_zret hx hb hr rfl hlocks hS hH (⟨by rw [hb1]; (try rw [hix]); rw [hb2]; (try rw [hid]); rfl, by rw [hix, hfd]; rfl, hC, hm_kd.rf⟩) (Nat.le_of_ble_eq_true rfl) (Nat.le_of_ble_eq_true rfl) dX7_isCached_35)
  · refine W.eq (g2 := F0 m 27 ls [.ref ((en a))]) rfl ?_
    have hfd : (fstP (fun j => isFor (E j) (b5 (gs i).2.1) (nI (gs i).2.2.1) (nI d)) 64) = some a := fI_some ha hpa hpj
    have hEa : f (en a) = some (ev (E a)) := hCA.2.2.1 a ha
    refine lv_ifnull hx hb dX7_isCached_27 ?_
    refine lv_iconst (v := 1) hx hb dX7_isCached_30 (by decide) ?_
    refine lv_goto (tgt := 35) hx hb dX7_isCached_31 (by decide) ?_
    exact vx_ret (hm_zret hx hb hr rfl hlocks hS hH (⟨by rw [hb1]; (try rw [hix]); rw [hb2]; (try rw [hid]); (try rw [hfd]); rfl, by rw [hix, hfd]; rfl, hC, hm_kd.rf⟩) (Nat.le_of_ble_eq_true rfl) (Nat.le_of_ble_eq_true rfl) dX7_isCached_35)
set_option maxHeartbeats 4000000 in
set_option maxRecDepth 100000 in
theorem t_X7_pin (Γ : Gm) (l : Launch) (x0 : Nat) (mf : Nat → Int32) (E : Nat → EV) (cn us : Int32) (so sh sm : Int64) (np : Nat) (mon : Nat → Int32) (ng : Nat) (gs : Nat → GS) (nt : Nat) (ts : Nat → TR) (lim : Int32) (rf sp : Int64) (rr : Nat) (v0 v1 : Int32) (f : Hm) (hst : l.stackTraces = false) (hC : CW Γ f x0 mf E cn us so sh sm np mon ng gs nt ts lim rf sp rr) (hnp : np ≤ 4) (hng : ng ≤ 8) (hnt : nt ≤ 60) (hr1 : 1 ≤ rr) (hrr : rr ≤ 64) (hgs : GOK np ng gs) : Cx Γ l yX7_pin cX7_pin 5 (some .int) 6 3 18 [.ref x0, .int v0, .int v1] f (cP (if inB v0 (nI ng) then (if inR v1 1 4 then (if (!(gs (ix v0)).2.2.2.2.2.2.2.2) then (if (fstP (fun j => isFor (E j) (b5 (gs (ix v0)).2.1) (nI (gs (ix v0)).2.2.1) v1) 64).isSome then 0 else 4) else 3) else 2) else 1) (nI (cntP (fun j => bt (pinE E (fstP (fun j => isFor (E j) (b5 (gs (ix v0)).2.1) (nI (gs (ix v0)).2.2.1) v1) 64) (ix v0) j).2.2.2.2.2.2 (ix v0)) 64)) Γ f (fun f' => CW Γ f' x0 mf ((pinE E (fstP (fun j => isFor (E j) (b5 (gs (ix v0)).2.1) (nI (gs (ix v0)).2.2.1) v1) 64) (ix v0))) cn us so sh sm np mon ng gs nt ts lim rf sp rr)) (cY [("java/lang/IndexOutOfBoundsException", 1), ("java/lang/IllegalArgumentException", 2), ("java/lang/UnsupportedOperationException", 3), ("java/util/NoSuchElementException", 4)] (if inB v0 (nI ng) then (if inR v1 1 4 then (if (!(gs (ix v0)).2.2.2.2.2.2.2.2) then (if (fstP (fun j => isFor (E j) (b5 (gs (ix v0)).2.1) (nI (gs (ix v0)).2.2.1) v1) 64).isSome then 0 else 4) else 3) else 2) else 1) Γ f (fun f' => CW Γ f' x0 mf E cn us so sh sm np mon ng gs nt ts lim rf sp rr)) := by
  refine Cx_of (by decide +kernel) (Nat.le_of_ble_eq_true rfl) ?_
  intro p e s m args below meth c hx hb hr hml hown hin hlocks hout hts hH hO hK ls hl
  have hl0 := hl
  have hl : lv_has ls 5 [(0, .ref x0), (1, .int v0), (2, .int v1)] := hl
  have hS : va_S (gA Γ) s.heap s.heap [] := va_S.rf
  obtain ⟨lp, lg, lt, ca, tr, pl, hCL, hCD⟩ := id hC
  obtain ⟨hx0, aP, cp_, P, aG, cg_, G, aT, ct_, T, ⟨hLP, hcP, hP, hPj⟩, ⟨hLG, hcG, hG, hGj⟩, ⟨hLT, hcT, hT⟩, ⟨hpg, hpt, hgt⟩, hPG, hPT, hGT⟩ := id hCL
  obtain ⟨⟨moP, hlP⟩, -⟩ := id hLP
  obtain ⟨⟨moG, hlG⟩, -⟩ := id hLG
  obtain ⟨⟨moT, hlT⟩, -⟩ := id hLT
  have h34 := hm_c34 hK
  obtain ⟨sl, en, ca1, sl1, en1, E1, cn1, rm1, us1, u1, u2, u3, ca2, sl2, hCA, hCA1, htr, hPL, ⟨hca1, hca2, hca12, htrpl⟩, hdis⟩ := id hCD
  refine lv_aload_n hx hb dX7_pin_0 rfl (lv_at hl 0 rfl) ?_
  refine lv_iload_n hx hb dX7_pin_1 rfl (lv_at hl 1 rfl) ?_
  refine hm_xV (rest := []) (k := 4) q3_80 q3_82 q1_1 q3_83 q0_5 rfl nm_X7_findGame rfl hx hb hml hown hts hK hO hS hH hl.1 hx0 hout hlocks (c_findGame Γ l x0 lp lg lt ca tr pl lim rf so sp sh sm aG cg_ ng G v0 f hst hx0 hLG (by omega) (by omega) (fun i hi => ⟨_, hG i hi⟩)) (fun E f' h_ => by obtain ⟨rfl, hno, rfl⟩ := h_; have hb0 := inB_no (by omega) hno; exact ⟨by rw [hb0]; exact (show (1 : Int32) ≠ 0 by decide), by rw [hb0]; exact (Or.inl ⟨rfl, rfl⟩), hC, hm_kd.rf⟩) ⟨Nat.le_of_ble_eq_true rfl, Nat.le_of_ble_eq_true rfl⟩ ⟨Nat.le_of_ble_eq_true rfl, Nat.le_of_ble_eq_true rfl⟩ ⟨Nat.le_of_ble_eq_true rfl, Nat.le_of_ble_eq_true rfl⟩ rfl (Nat.le_of_ble_eq_true rfl) dX7_pin_2 (fun v_ f_ H locs hp_ hH hS => ?_)
  obtain ⟨i, hi, rfl, rfl, ef_⟩ := hp_
  rw [ef_] at hH
  clear ef_
  refine W.eq (g2 := F0 m 5 ls [.ref ((G i))]) rfl ?_
  have hb1 := inB_yes (n := ng) (by omega) hi
  have hix : ix (nI i) = i := ix_nI (by omega)
  have hGi := hG i hi
  obtain ⟨hgo, hgw, hgz⟩ := hgs i hi
  have hi8 : i < 8 := by omega
  have ht31 : tl 31 (gs i).2.1 := tl31 (by omega)
  refine lv_astore_n (lv' := [(3, .ref ((G i))), (0, .ref x0), (1, .int (nI i)), (2, .int v1)]) hx hb dX7_pin_5 rfl hl (by decide) rfl (fun ls hl => ?_)
  refine lv_iload_n hx hb dX7_pin_6 rfl (lv_at hl 3 rfl) ?_
  refine lv_iconst (v := 1) hx hb dX7_pin_7 (by decide) ?_
  refine hm_xS (rest := []) (k := 2) q3_152 q3_153 q1_1 q3_154 nm_X7_checkDepth rfl hx hb hml hown hts hK hO hS hH hl.1 hout hlocks (c_checkDepth Γ l v1 1 f hst (by decide)) (fun E f' h_ => by obtain ⟨rfl, hno, rfl⟩ := h_; have hb0 := inR_no hno; exact ⟨by rw [hb1]; (try rw [hix]); rw [hb0]; exact (show (2 : Int32) ≠ 0 by decide), by rw [hb1]; (try rw [hix]); rw [hb0]; exact (Or.inr (Or.inl ⟨rfl, rfl⟩)), hC, hm_kd.rf⟩) ⟨Nat.le_of_ble_eq_true rfl, Nat.le_of_ble_eq_true rfl⟩ ⟨Nat.le_of_ble_eq_true rfl, Nat.le_of_ble_eq_true rfl⟩ ⟨Nat.le_of_ble_eq_true rfl, Nat.le_of_ble_eq_true rfl⟩ rfl (Nat.le_of_ble_eq_true rfl) dX7_pin_8 (fun v_ f_ H locs hp_ hH hS => ?_)
  obtain ⟨rfl, ⟨d, hd1, hd4, rfl⟩, ef_⟩ := hp_
  rw [ef_] at hH
  clear ef_
  refine W.eq (g2 := F0 m 11 ls []) rfl ?_
  have hb2 := inR_yes hd1 hd4
  have hid : ix (nI d) = d := ix_nI (by omega)
  refine lv_aload_n hx hb dX7_pin_11 rfl (lv_at hl 0 rfl) ?_
  refine gf_X7_108 hx hb hts hown hK hH hGi rfl dX7_pin_12 ?_
  refine lv_if_eq (tgt := 28) hx hb dX7_pin_15 (by decide) (fun c1 => ?_) (fun c1 => ?_)
  · have hb3 : (!(gs i).2.2.2.2.2.2.2.2) = true := by rw [bI_0.mp c1]; rfl
    refine lv_aload_n hx hb dX7_pin_28 rfl (lv_at hl 1 rfl) ?_
    refine gf_X7_27 hx hb hts hown hK hH hx0 rfl dX7_pin_29 ?_
    refine lv_aload_n hx hb dX7_pin_32 rfl (lv_at hl 0 rfl) ?_
    refine gf_X7_112 hx hb hts hown hK hH hGi rfl dX7_pin_33 ?_
    refine lv_aload_n hx hb dX7_pin_36 rfl (lv_at hl 0 rfl) ?_
    refine gf_X7_188 hx hb hts hown hK hH hGi rfl dX7_pin_37 ?_
    refine lv_iload_n hx hb dX7_pin_40 rfl (lv_at hl 3 rfl) ?_
    refine hm_callV (rest := []) (k := 2) q3_183 q3_184 q1_5 q3_186 q3_185 rfl nm_X1_find rfl hx hb hml hown hts hK hO hS hH hl.1 hCA.1 (c_X1_find Γ l (b5 (gs i).2.1) (nI (gs i).2.2.1) (nI d) ca sl 64 en E cn (nI rr) us f hCA (by decide)) ⟨Nat.le_of_ble_eq_true rfl, Nat.le_of_ble_eq_true rfl⟩ ⟨Nat.le_of_ble_eq_true rfl, Nat.le_of_ble_eq_true rfl⟩ rfl (Nat.le_of_ble_eq_true rfl) dX7_pin_41 (fun v_ f_ H locs hp_ hH hS => ?_)
    obtain ⟨hp_, ef_⟩ := hp_
    rw [ef_] at hH
    clear ef_
    rcases hp_ with ⟨rfl, hno⟩ | ⟨a, ha, hpa, hpj, rfl⟩
    · refine W.eq (g2 := F0 m 44 ls [.null]) rfl ?_
      have hfd : (fstP (fun j => isFor (E j) (b5 (gs i).2.1) (nI (gs i).2.2.1) (nI d)) 64).isSome = false := fI_none hno
      refine lv_astoreN (lv' := [(4, .null), (3, .ref ((G i))), (0, .ref x0), (1, .int (nI i)), (2, .int (nI d))]) hx hb dX7_pin_44 hl (by decide) rfl (fun ls hl => ?_)
      refine lv_aloadN hx hb dX7_pin_46 (lv_at hl 0 rfl) ?_
      refine lv_ifnonnullN hx hb dX7_pin_48 ?_
      exact hm_thrN hx hb hst hml hl.1 hown q3_221 q1_26 (text := "there is no such entry") (by decide) xA_NS (by decide +kernel) (by decide +kernel) (by decide +kernel) (by decide +kernel) (by decide +kernel) (by decide +kernel) hts hK hO hS hH dX7_pin_51 dX7_pin_54 dX7_pin_55 dX7_pin_57 dX7_pin_60 hout hlocks (⟨by rw [hb1]; (try rw [hix]); rw [hb2]; (try rw [hid]); rw [hb3]; rw [hfd]; exact (show (4 : Int32) ≠ 0 by decide), by rw [hb1]; (try rw [hix]); rw [hb2]; (try rw [hid]); rw [hb3]; rw [hfd]; exact (Or.inr (Or.inr (Or.inr (Or.inl ⟨rfl, rfl⟩)))), hC, hm_kd.rf⟩) (Nat.le_of_ble_eq_true rfl) (Nat.le_of_ble_eq_true rfl) (Nat.le_of_ble_eq_true rfl) (Nat.le_of_ble_eq_true rfl) (Nat.le_of_ble_eq_true rfl) (Nat.le_of_ble_eq_true rfl)
    · refine W.eq (g2 := F0 m 44 ls [.ref ((en a))]) rfl ?_
      have hfd : (fstP (fun j => isFor (E j) (b5 (gs i).2.1) (nI (gs i).2.2.1) (nI d)) 64) = some a := fI_some ha hpa hpj
      have hEa : f (en a) = some (ev (E a)) := hCA.2.2.1 a ha
      refine lv_astore (lv' := [(4, .ref ((en a))), (3, .ref ((G i))), (0, .ref x0), (1, .int (nI i)), (2, .int (nI d))]) hx hb dX7_pin_44 hl (by decide) rfl (fun ls hl => ?_)
      refine lv_aload hx hb dX7_pin_46 (lv_at hl 0 rfl) ?_
      refine lv_ifnonnull (tgt := 61) hx hb dX7_pin_48 (by decide) ?_
      refine lv_aload hx hb dX7_pin_61 (lv_at hl 0 rfl) ?_
      refine lv_dup hx hb dX7_pin_63 rfl ?_
      refine gf_X7_216 hx hb hts hown hK hH hEa rfl dX7_pin_64 ?_
      refine lv_aload_n hx hb dX7_pin_67 rfl (lv_at hl 1 rfl) ?_
      refine gf_X7_221 hx hb hts hown hK hH hGi rfl dX7_pin_68 ?_
      refine lv_ior hx hb dX7_pin_71 ?_
      refine lv_topi (fun v2 ev2 => ?_)
      replace ev2 : v2 = ((E a).2.2.2.2.2.2 ||| (1 <<< (nI i &&& 31))) := ev2.trans (rfl)
      subst ev2
      refine pf_X7_216 hx hb hts hown hK hO hS hH hEa rfl (Nat.le_of_ble_eq_true rfl) rfl dX7_pin_72 (fun H locs hH hS => ?_)
      obtain ⟨f3, ef3⟩ : ∃ zz_, zz_ = hm_up f ((en a)) (eR 2 [.long ((E a).1), .int ((E a).2.1), .int ((E a).2.2.1), .int ((E a).2.2.2.1), .int ((E a).2.2.2.2.1), .int ((E a).2.2.2.2.2.1), .int (((E a).2.2.2.2.2.2 ||| (1 <<< (nI i &&& 31))))]) := ⟨_, rfl⟩
      have hH : hm_H Γ f3 H := by rw [ef3]; exact hH
      have h4 : f3 ((en a)) = some (eR 2 [.long ((E a).1), .int ((E a).2.1), .int ((E a).2.2.1), .int ((E a).2.2.2.1), .int ((E a).2.2.2.2.1), .int ((E a).2.2.2.2.2.1), .int (((E a).2.2.2.2.2.2 ||| (1 <<< (nI i &&& 31))))]) := by rw [ef3]; exact hm_us
      have h5 : f3 x0 = some (eR 7 [.ref lp, .ref lg, .ref lt, .ref ca, .ref tr, .ref pl, .int lim, .long rf, .long so, .long sp, .long sh, .long sm]) := by rw [ef3]; exact (hm_un (hm_ne hx0 hEa (fun q => by injection q with q; injection q with q; cases q))).trans hx0
      have h6 : f3 lp = some (eR 0 [.int moP, .ref aP, .int (nI np)]) := by rw [ef3]; exact (hm_un (hm_ne hlP hEa (fun q => by injection q with q; injection q with q; cases q))).trans hlP
      have h7 : f3 lg = some (eR 0 [.int moG, .ref aG, .int (nI ng)]) := by rw [ef3]; exact (hm_un (hm_ne hlG hEa (fun q => by injection q with q; injection q with q; cases q))).trans hlG
      have h8 : f3 lt = some (eR 0 [.int moT, .ref aT, .int (nI nt)]) := by rw [ef3]; exact (hm_un (hm_ne hlT hEa (fun q => by injection q with q; injection q with q; cases q))).trans hlT
      have h9 : f3 ((G i)) = some (eR 3 [.ref ((P (gs i).1)), .int ((1 <<< (nI i &&& 31))), .long (b5 (gs i).2.1), .int (nI (gs i).2.2.1), .int ((gs i).2.2.2.1), .int ((gs i).2.2.2.2.1), .int ((gs i).2.2.2.2.2.1), .int ((gs i).2.2.2.2.2.2.1), .int ((gs i).2.2.2.2.2.2.2.1), .int (bI (gs i).2.2.2.2.2.2.2.2)]) := by rw [ef3]; exact (hm_un (hm_ne hGi hEa (fun q => by injection q with q; injection q with q; cases q))).trans hGi
      have kd10 : hm_kd (kX [2]) Γ f f3 := (by rw [ef3]; exact hm_kd.up hEa rfl)
      have hCA4 : CA Γ f3 ca sl 64 en (updE E a (setP (E a) ((E a).2.2.2.2.2.2 ||| (1 <<< (nI i &&& 31))))) cn (nI rr) us := by rw [ef3]; exact hCA.ent ha (setP (E a) ((E a).2.2.2.2.2.2 ||| (1 <<< (nI i &&& 31))))
      have hfr4 : hm_fr (cS ca 64 en) f f3 := by rw [ef3]; exact hm_fr.rf.up (Or.inr ⟨a, ha, rfl⟩)
      have ⟨hCA14, htr4, hPL4, hk4⟩ := CD.own hCA hCA1 htr hPL hca1 hca2 hdis hfr4
      refine lv_aload_n hx hb dX7_pin_75 rfl (lv_at hl 2 rfl) ?_
      refine gf_X7_27 hx hb hts hown hK hH h5 rfl dX7_pin_76 ?_
      refine lv_aload_n hx hb dX7_pin_79 rfl (lv_at hl 1 rfl) ?_
      refine gf_X7_221 hx hb hts hown hK hH h9 rfl dX7_pin_80 ?_
      refine hm_callV (rest := []) (k := 1) q4_145 q4_146 q1_5 q4_148 q4_147 rfl nm_X1_countPins rfl hx hb hml hown hts hK hO hS hH hl.1 (hCA4).1 (c_X1_countPins Γ l (1 <<< (nI i &&& 31)) ca sl 64 en (updE E a (setP (E a) ((E a).2.2.2.2.2.2 ||| (1 <<< (nI i &&& 31))))) cn (nI rr) us f3 hCA4 (by decide)) ⟨Nat.le_of_ble_eq_true rfl, Nat.le_of_ble_eq_true rfl⟩ ⟨Nat.le_of_ble_eq_true rfl, Nat.le_of_ble_eq_true rfl⟩ rfl (Nat.le_of_ble_eq_true rfl) dX7_pin_83 (fun v_ f_ H locs hp_ hH hS => ?_)
      obtain ⟨rfl, ef_⟩ := hp_
      rw [ef_] at hH
      clear ef_
      refine W.eq (g2 := F0 m 86 ls [.int (nI (cntP (fun j => bt ((updE E a (setP (E a) ((E a).2.2.2.2.2.2 ||| (1 <<< (nI i &&& 31))))) j).2.2.2.2.2.2 i) 64))]) (by rw [pin2 _ hi8]; rfl) ?_
      subst ef3
      exact vx_ret (hm_iret hx hb hr hlocks hS hH (⟨by rw [hb1]; (try rw [hix]); rw [hb2]; (try rw [hid]); rw [hb3]; (try rw [hfd]); rfl, by rw [hix, hfd]; rfl, (by rw [hix, hfd]; exact ⟨lp, lg, lt, ca, tr, pl, hCL.kpt h34 (kX_L hk4 rfl rfl rfl rfl rfl rfl), ⟨sl, en, ca1, sl1, en1, E1, cn1, rm1, us1, u1, u2, u3, ca2, sl2, hCA4, hCA14, htr4, hPL4, ⟨hca1, hca2, hca12, htrpl⟩, hdis⟩⟩), kX_M hk4 rfl rfl⟩) (Nat.le_of_ble_eq_true rfl) (Nat.le_of_ble_eq_true rfl) dX7_pin_86)
  · exact hm_thr hx hb hst hml hl.1 hown q3_110 q1_25 (text := "the game is void") (by decide) xA_UO (by decide +kernel) hts hK hO hS hH dX7_pin_18 dX7_pin_21 dX7_pin_22 dX7_pin_24 dX7_pin_27 hout hlocks (by have hb0 : (!(gs i).2.2.2.2.2.2.2.2) = false := (by rw [bI_n.mp c1]; rfl); exact ⟨by rw [hb1]; (try rw [hix]); rw [hb2]; (try rw [hid]); rw [hb0]; exact (show (3 : Int32) ≠ 0 by decide), by rw [hb1]; (try rw [hix]); rw [hb2]; (try rw [hid]); rw [hb0]; exact (Or.inr (Or.inr (Or.inl ⟨rfl, rfl⟩))), hC, hm_kd.rf⟩) (Nat.le_of_ble_eq_true rfl) (Nat.le_of_ble_eq_true rfl) (Nat.le_of_ble_eq_true rfl) (Nat.le_of_ble_eq_true rfl) (Nat.le_of_ble_eq_true rfl) (Nat.le_of_ble_eq_true rfl)
set_option maxHeartbeats 4000000 in
set_option maxRecDepth 100000 in
theorem t_X7_unpin (Γ : Gm) (l : Launch) (x0 : Nat) (mf : Nat → Int32) (E : Nat → EV) (cn us : Int32) (so sh sm : Int64) (np : Nat) (mon : Nat → Int32) (ng : Nat) (gs : Nat → GS) (nt : Nat) (ts : Nat → TR) (lim : Int32) (rf sp : Int64) (rr : Nat) (v0 : Int32) (f : Hm) (hst : l.stackTraces = false) (hC : CW Γ f x0 mf E cn us so sh sm np mon ng gs nt ts lim rf sp rr) (hnp : np ≤ 4) (hng : ng ≤ 8) (hnt : nt ≤ 60) (hr1 : 1 ≤ rr) (hrr : rr ≤ 64) (hgs : GOK np ng gs) : Cx Γ l yX7_unpin cX7_unpin 4 (some .int) 6 1 6 [.ref x0, .int v0] f (cP (if inB v0 (nI ng) then 0 else 1) (nI (cntP (fun j => bt (E j).2.2.2.2.2.2 (ix v0)) 64)) Γ f (fun f' => CW Γ f' x0 mf ((unpK E (ix v0))) cn us so sh sm np mon ng gs nt ts lim rf sp rr)) (cY [("java/lang/IndexOutOfBoundsException", 1)] (if inB v0 (nI ng) then 0 else 1) Γ f (fun f' => CW Γ f' x0 mf E cn us so sh sm np mon ng gs nt ts lim rf sp rr)) := by
  refine Cx_of (by decide +kernel) (Nat.le_of_ble_eq_true rfl) ?_
  intro p e s m args below meth c hx hb hr hml hown hin hlocks hout hts hH hO hK ls hl
  have hl0 := hl
  have hl : lv_has ls 4 [(0, .ref x0), (1, .int v0)] := hl
  have hS : va_S (gA Γ) s.heap s.heap [] := va_S.rf
  obtain ⟨lp, lg, lt, ca, tr, pl, hCL, hCD⟩ := id hC
  obtain ⟨hx0, aP, cp_, P, aG, cg_, G, aT, ct_, T, ⟨hLP, hcP, hP, hPj⟩, ⟨hLG, hcG, hG, hGj⟩, ⟨hLT, hcT, hT⟩, ⟨hpg, hpt, hgt⟩, hPG, hPT, hGT⟩ := id hCL
  obtain ⟨⟨moP, hlP⟩, -⟩ := id hLP
  obtain ⟨⟨moG, hlG⟩, -⟩ := id hLG
  obtain ⟨⟨moT, hlT⟩, -⟩ := id hLT
  have h34 := hm_c34 hK
  obtain ⟨sl, en, ca1, sl1, en1, E1, cn1, rm1, us1, u1, u2, u3, ca2, sl2, hCA, hCA1, htr, hPL, ⟨hca1, hca2, hca12, htrpl⟩, hdis⟩ := id hCD
  refine lv_aload_n hx hb dX7_unpin_0 rfl (lv_at hl 0 rfl) ?_
  refine lv_iload_n hx hb dX7_unpin_1 rfl (lv_at hl 1 rfl) ?_
  refine hm_xV (rest := []) (k := 4) q3_80 q3_82 q1_1 q3_83 q0_5 rfl nm_X7_findGame rfl hx hb hml hown hts hK hO hS hH hl.1 hx0 hout hlocks (c_findGame Γ l x0 lp lg lt ca tr pl lim rf so sp sh sm aG cg_ ng G v0 f hst hx0 hLG (by omega) (by omega) (fun i hi => ⟨_, hG i hi⟩)) (fun E f' h_ => by obtain ⟨rfl, hno, rfl⟩ := h_; have hb0 := inB_no (by omega) hno; exact ⟨by rw [hb0]; exact (show (1 : Int32) ≠ 0 by decide), by rw [hb0]; exact (Or.inl ⟨rfl, rfl⟩), hC, hm_kd.rf⟩) ⟨Nat.le_of_ble_eq_true rfl, Nat.le_of_ble_eq_true rfl⟩ ⟨Nat.le_of_ble_eq_true rfl, Nat.le_of_ble_eq_true rfl⟩ ⟨Nat.le_of_ble_eq_true rfl, Nat.le_of_ble_eq_true rfl⟩ rfl (Nat.le_of_ble_eq_true rfl) dX7_unpin_2 (fun v_ f_ H locs hp_ hH hS => ?_)
  obtain ⟨i, hi, rfl, rfl, ef_⟩ := hp_
  rw [ef_] at hH
  clear ef_
  refine W.eq (g2 := F0 m 5 ls [.ref ((G i))]) rfl ?_
  have hb1 := inB_yes (n := ng) (by omega) hi
  have hix : ix (nI i) = i := ix_nI (by omega)
  have hGi := hG i hi
  obtain ⟨hgo, hgw, hgz⟩ := hgs i hi
  have hi8 : i < 8 := by omega
  have ht31 : tl 31 (gs i).2.1 := tl31 (by omega)
  refine lv_astore_n (lv' := [(2, .ref ((G i))), (0, .ref x0), (1, .int (nI i))]) hx hb dX7_unpin_5 rfl hl (by decide) rfl (fun ls hl => ?_)
  refine lv_aload_n hx hb dX7_unpin_6 rfl (lv_at hl 1 rfl) ?_
  refine gf_X7_27 hx hb hts hown hK hH hx0 rfl dX7_unpin_7 ?_
  refine lv_aload_n hx hb dX7_unpin_10 rfl (lv_at hl 0 rfl) ?_
  refine gf_X7_221 hx hb hts hown hK hH hGi rfl dX7_unpin_11 ?_
  refine hm_callV (rest := []) (k := 1) q4_145 q4_146 q1_5 q4_148 q4_147 rfl nm_X1_countPins rfl hx hb hml hown hts hK hO hS hH hl.1 (hCA).1 (c_X1_countPins Γ l (1 <<< (nI i &&& 31)) ca sl 64 en (E) cn (nI rr) us f hCA (by decide)) ⟨Nat.le_of_ble_eq_true rfl, Nat.le_of_ble_eq_true rfl⟩ ⟨Nat.le_of_ble_eq_true rfl, Nat.le_of_ble_eq_true rfl⟩ rfl (Nat.le_of_ble_eq_true rfl) dX7_unpin_14 (fun v_ f_ H locs hp_ hH hS => ?_)
  obtain ⟨rfl, ef_⟩ := hp_
  rw [ef_] at hH
  clear ef_
  refine W.eq (g2 := F0 m 17 ls [.int (nI (cntP (fun j => bt ((E) j).2.2.2.2.2.2 i) 64))]) (by rw [pin2 _ hi8]; rfl) ?_
  refine lv_istore_n (lv' := [(3, .int (nI (cntP (fun j => bt ((E) j).2.2.2.2.2.2 i) 64))), (2, .ref ((G i))), (0, .ref x0), (1, .int (nI i))]) hx hb dX7_unpin_17 rfl hl (by decide) rfl (fun ls hl => ?_)
  refine lv_aload_n hx hb dX7_unpin_18 rfl (lv_at hl 2 rfl) ?_
  refine gf_X7_27 hx hb hts hown hK hH hx0 rfl dX7_unpin_19 ?_
  refine lv_aload_n hx hb dX7_unpin_22 rfl (lv_at hl 1 rfl) ?_
  refine gf_X7_221 hx hb hts hown hK hH hGi rfl dX7_unpin_23 ?_
  refine hm_callV (rest := []) (k := 1) q4_156 q4_157 q1_5 q4_159 q4_158 rfl nm_X1_takePins rfl hx hb hml hown hts hK hO hS hH hl.1 (hCA).1 (c_X1_takePins Γ l (1 <<< (nI i &&& 31)) ca sl 64 en E cn (nI rr) us f hCA (by decide)) ⟨Nat.le_of_ble_eq_true rfl, Nat.le_of_ble_eq_true rfl⟩ ⟨Nat.le_of_ble_eq_true rfl, Nat.le_of_ble_eq_true rfl⟩ rfl (Nat.le_of_ble_eq_true rfl) dX7_unpin_26 (fun v_ f4_ H locs hp_ hH hS => ?_)
  obtain ⟨rfl, hCA4, hfr4⟩ := hp_
  refine W.eq (g2 := F0 m 29 ls []) rfl ?_
  have ⟨hCA14, htr4, hPL4, hk4⟩ := CD.own hCA hCA1 htr hPL hca1 hca2 hdis hfr4
  refine lv_iload_n hx hb dX7_unpin_29 rfl (lv_at hl 0 rfl) ?_
  exact vx_ret (hm_iret hx hb hr hlocks hS hH (⟨by rw [hb1]; (try rw [hix]); rfl, by rw [hix], (by rw [hix]; exact ⟨lp, lg, lt, ca, tr, pl, hCL.kpt h34 (kX_L hk4 rfl rfl rfl rfl rfl rfl), ⟨sl, en, ca1, sl1, en1, E1, cn1, rm1, us1, u1, u2, u3, ca2, sl2, hCA4, hCA14, htr4, hPL4, ⟨hca1, hca2, hca12, htrpl⟩, hdis⟩⟩), kX_M hk4 rfl rfl⟩) (Nat.le_of_ble_eq_true rfl) (Nat.le_of_ble_eq_true rfl) dX7_unpin_30)
