/-! TileWarden: are the entries right -/
set_option maxHeartbeats 4000000 in
set_option maxRecDepth 100000 in
theorem c_isFoundPlainly (Γ : Gm) (l : Launch) (x0 lp lg lt ca tr pl : Nat) (lim : Int32) (rf so sp sh sm : Int64) (ca2 sl2 e0 : Nat) (t : Nat → Nat) (z d : Nat) (u pn : Int32) (f : Hm) (hx0 : f x0 = some (eR 7 [.ref lp, .ref lg, .ref lt, .ref ca, .ref tr, .ref pl, .int lim, .long rf, .long so, .long sp, .long sh, .long sm])) (hP : PLN Γ f pl ca2 sl2) (he : f e0 = some (ev (b5 t, nI z, nI d, nI (wp d t z).1, (wp d t z).2, u, pn))) (hd : 1 ≤ d) (hd4 : d ≤ 4) (hz : z < 2 ^ 31) (hw : wt t + 4 * d ≤ 4000) : Ct Γ l yX7_isFoundPlainly cX7_isFoundPlainly 3 (some .boolean) 13 0 0 [.ref x0, .ref e0] f (fun v f' => v = some (.int 1) ∧ PLN Γ f' pl ca2 sl2 ∧ hm_fr (pS pl ca2) f f') := by
  refine Ct_of (by decide +kernel) (Nat.le_of_ble_eq_true rfl) ?_
  intro p e s m args below meth c hx hb hr hml hown hin hlocks hts hH hO hK ls hl
  have hl : lv_has ls 3 [(0, .ref x0), (1, .ref e0)] := hl
  have hS : va_S (gA Γ) s.heap s.heap [] := va_S.rf
  obtain ⟨a1, b1, q1, hpl⟩ := id hP.1
  obtain ⟨en_, E_, cn_, rm_, us_, hC_⟩ := id hP.2
  have hnp : ∀ b ci fs, f b = some (eR ci fs) → ci ≠ 5 → ci ≠ 1 → ¬ pS pl ca2 b := by
    rintro b ci fs hb h5 h1 (q | q)
    · exact hm_ne hb hpl (fun z => by injection z with z; injection z with z; exact h5 z) q
    · exact hm_ne hb hC_.1 (fun z => by injection z with z; injection z with z; exact h1 z) q
  refine lv_aload_n hx hb dX7_isFoundPlainly_0 rfl (lv_at hl 0 rfl) ?_
  refine gf_X7_40 hx hb hts hown hK hH hx0 rfl dX7_isFoundPlainly_1 ?_
  refine lv_aload_n hx hb dX7_isFoundPlainly_4 rfl (lv_at hl 1 rfl) ?_
  refine gf_X7_342 hx hb hts hown hK hH he rfl dX7_isFoundPlainly_5 ?_
  refine lv_aload_n hx hb dX7_isFoundPlainly_8 rfl (lv_at hl 1 rfl) ?_
  refine gf_X7_343 hx hb hts hown hK hH he rfl dX7_isFoundPlainly_9 ?_
  refine lv_aload_n hx hb dX7_isFoundPlainly_12 rfl (lv_at hl 1 rfl) ?_
  refine gf_X7_344 hx hb hts hown hK hH he rfl dX7_isFoundPlainly_13 ?_
  refine hm_callS (rest := []) (k := 8 + d) q3_180 q3_181 q1_1 q3_182 nm_X7_look rfl hx hb hml hown hts hK hO hS hH hl.1 (c_lookP Γ l pl ca2 sl2 t z d f hP hd4 hz hw) ⟨by show 10 * (8 + d) + 1 ≤ 130; omega, by show 8 + (13 + 11) + 200 * (8 + d) ≤ 2600; omega⟩ ⟨Nat.le_of_ble_eq_true rfl, Nat.le_of_ble_eq_true rfl⟩ rfl (Nat.le_of_ble_eq_true rfl) dX7_isFoundPlainly_16 (fun v_ f_ H locs hp_ hH hS => ?_)
  obtain ⟨rfl, hP2, ⟨a2, b2, p2, hpl2, hp2⟩, hfr⟩ := hp_
  rw [hp2 (by omega)] at hpl2
  refine W.eq (g2 := F0 m 19 ls [.int (nI (wp d t z).1)]) rfl ?_
  have h1 : f_ x0 = some (eR 7 [.ref lp, .ref lg, .ref lt, .ref ca, .ref tr, .ref pl, .int lim, .long rf, .long so, .long sp, .long sh, .long sm]) := (hfr _ (hnp _ _ _ hx0 (by decide) (by decide))).trans hx0
  have h2 : f_ e0 = some (eR 2 [.long (b5 t), .int (nI z), .int (nI d), .int (nI (wp d t z).1), .int ((wp d t z).2), .int u, .int pn]) := (hfr _ (hnp _ _ _ he (by decide) (by decide))).trans he
  refine lv_istore_n (lv' := [(2, .int (nI (wp d t z).1)), (0, .ref x0), (1, .ref e0)]) hx hb dX7_isFoundPlainly_19 rfl hl (by decide) rfl (fun ls hl => ?_)
  refine lv_aload_n hx hb dX7_isFoundPlainly_20 rfl (lv_at hl 2 rfl) ?_
  refine gf_X7_306 hx hb hts hown hK hH h2 rfl dX7_isFoundPlainly_21 ?_
  refine lv_iload_n hx hb dX7_isFoundPlainly_24 rfl (lv_at hl 0 rfl) ?_
  refine lv_icmp_ne (tgt := 46) hx hb dX7_isFoundPlainly_25 (by decide) (fun c3 => absurd (rfl) c3) (fun _ => ?_)
  refine lv_aload_n hx hb dX7_isFoundPlainly_28 rfl (lv_at hl 2 rfl) ?_
  refine gf_X7_305 hx hb hts hown hK hH h2 rfl dX7_isFoundPlainly_29 ?_
  refine lv_aload_n hx hb dX7_isFoundPlainly_32 rfl (lv_at hl 1 rfl) ?_
  refine gf_X7_40 hx hb hts hown hK hH h1 rfl dX7_isFoundPlainly_33 ?_
  refine gf_X7_185 hx hb hts hown hK hH hpl2 rfl dX7_isFoundPlainly_36 ?_
  refine lv_icmp_ne (tgt := 46) hx hb dX7_isFoundPlainly_39 (by decide) (fun c4 => absurd (rfl) c4) (fun _ => ?_)
  refine lv_iconst (v := 1) hx hb dX7_isFoundPlainly_42 (by decide) ?_
  refine lv_goto (tgt := 47) hx hb dX7_isFoundPlainly_43 (by decide) ?_
  exact hm_zret hx hb hr rfl hlocks hS hH (⟨rfl, hP2, hfr⟩) (Nat.le_of_ble_eq_true rfl) (Nat.le_of_ble_eq_true rfl) dX7_isFoundPlainly_47
set_option maxHeartbeats 4000000 in
set_option maxRecDepth 100000 in
theorem c_areEntriesRight (Γ : Gm) (l : Launch) (x0 lp lg lt ca tr pl : Nat) (lim : Int32) (rf so sp sh sm : Int64) (ca2 sl2 sl : Nat) (en : Nat → Nat) (E : Nat → EV) (cn rm us : Int32) (f : Hm) (hx0 : f x0 = some (eR 7 [.ref lp, .ref lg, .ref lt, .ref ca, .ref tr, .ref pl, .int lim, .long rf, .long so, .long sp, .long sh, .long sm])) (hP : PLN Γ f pl ca2 sl2) (hC : CA Γ f ca sl 64 en E cn rm us) (hcc : ca ≠ ca2) (hok : ∀ j, j < 64 → eok (E j)) (hfree : ∀ j, j < 64 → (E j).2.2.1 = 0 → (E j).2.2.2.2.2.2 = 0) : Ct Γ l yX7_areEntriesRight cX7_areEntriesRight 6 (some .boolean) 14 0 0 [.ref x0] f (fun v f' => v = some (.int 1) ∧ PLN Γ f' pl ca2 sl2 ∧ hm_fr (pS pl ca2) f f') := by
  refine Ct_of (by decide +kernel) (Nat.le_of_ble_eq_true rfl) ?_
  intro p e s m args below meth c hx hb hr hml hown hin hlocks hts hH hO hK ls hl
  have hl : lv_has ls 6 [(0, .ref x0)] := hl
  have hS : va_S (gA Γ) s.heap s.heap [] := va_S.rf
  obtain ⟨a1, b1, q1, hpl⟩ := id hP.1
  obtain ⟨en_, E_, cn_, rm_, us_, hC_⟩ := id hP.2
  have hn1 : ∀ b ci fs, f b = some (eR ci fs) → ci ≠ 5 → ci ≠ 1 → ¬ pS pl ca2 b := by
    rintro b ci fs hb h5 h1 (q | q)
    · exact hm_ne hb hpl (fun z => by injection z with z; injection z with z; exact h5 z) q
    · exact hm_ne hb hC_.1 (fun z => by injection z with z; injection z with z; exact h1 z) q
  have hnc : ¬ pS pl ca2 ca := by
    rintro (q | q)
    · exact hm_ne hC.1 hpl (fun z => by injection z with z; injection z with z; cases z) q
    · exact hcc q
  have hns : ¬ pS pl ca2 sl := by
    obtain ⟨g_, hg_, -⟩ := hC.2.1
    rintro (q | q)
    · exact hm_ne hg_ hpl (fun z => by cases z) q
    · exact hm_ne hg_ hC_.1 (fun z => by cases z) q
  have loop : ∀ (k_ i : Nat) (f1 : Hm), i + k_ = 64 → PLN Γ f1 pl ca2 sl2 → hm_fr (pS pl ca2) f f1 → ∀ (H : Heap) (locs : List Loc), hm_H Γ f1 H → va_S (gA Γ) s.heap H locs → ∀ ls : Array Slot, lv_has ls 6 [(3, .int (nI i)), (2, .int (nI 64)), (1, .ref sl), (0, .ref x0)] → W p l e (rmk 14 0 0) s m args below meth c H locs 0 0 (MQ below (hm_Q Γ (fun v f' => v = some (.int 1) ∧ PLN Γ f' pl ca2 sl2 ∧ hm_fr (pS pl ca2) f f')) args s 0 0 (gA Γ)) (F0 m 13 ls []) := by
    intro k_
    induction k_ with
      | zero =>
        intro i f1 hin_ hP1 hfr H locs hH hS ls hl
        have hi : i = 64 := by omega
        subst hi
        refine lv_iload_n hx hb dX7_areEntriesRight_13 rfl (lv_at hl 0 rfl) ?_
        refine lv_iload_n hx hb dX7_areEntriesRight_14 rfl (lv_at hl 1 rfl) ?_
        refine lv_icmp_ge (tgt := 68) hx hb dX7_areEntriesRight_15 (by decide) (fun _ => ?_) (fun c1 => absurd (nI_le (Nat.le_refl _) (by omega)) c1)
        refine lv_iconst (v := 1) hx hb dX7_areEntriesRight_68 (by decide) ?_
        exact hm_zret hx hb hr rfl hlocks hS hH (⟨rfl, hP1, hfr⟩) (Nat.le_of_ble_eq_true rfl) (Nat.le_of_ble_eq_true rfl) dX7_areEntriesRight_69
      | succ k_ ih =>
        intro i f1 hin_ hP1 hfr H locs hH hS ls hl
        have hi : i < 64 := by omega
        have hC1 := hC.kept hfr hnc hns (fun i hi => hn1 _ _ _ (hC.2.2.1 i hi) (by decide) (by decide))
        have hx1 := (hfr x0 (hn1 _ _ _ hx0 (by decide) (by decide))).trans hx0
        obtain ⟨hc, ⟨g, hsl, hg⟩, hE, hinj⟩ := id hC1
        have hei := hE i hi
        refine lv_iload_n hx hb dX7_areEntriesRight_13 rfl (lv_at hl 0 rfl) ?_
        refine lv_iload_n hx hb dX7_areEntriesRight_14 rfl (lv_at hl 1 rfl) ?_
        refine lv_icmp_ge (tgt := 68) hx hb dX7_areEntriesRight_15 (by decide) (fun c1 => absurd c1 (nI_ge hi (by omega))) (fun _ => ?_)
        refine lv_aload_n hx hb dX7_areEntriesRight_18 rfl (lv_at hl 2 rfl) ?_
        refine lv_iload_n hx hb dX7_areEntriesRight_19 rfl (lv_at hl 0 rfl) ?_
        refine hm_naldE hx hb hK hH hsl (vp_in_nI hi (by omega)) dX7_areEntriesRight_20 ?_
        refine W.eq (g2 := F0 m 21 ls (.ref ((en i)) :: [])) (congrArg (fun x_ => F0 m 21 ls (x_ :: [])) (by rw [nI_clamp (by omega), hg i hi]; rfl)) ?_
        refine lv_astore (lv' := [(4, .ref ((en i))), (3, .int (nI i)), (2, .int (nI 64)), (1, .ref sl), (0, .ref x0)]) hx hb dX7_areEntriesRight_21 hl (by decide) rfl (fun ls hl => ?_)
        refine lv_aload hx hb dX7_areEntriesRight_23 (lv_at hl 0 rfl) ?_
        refine hm_callV (rest := []) (k := 1) q7_188 q3_208 q1_7 q3_210 q3_209 rfl nm_X2_isFree rfl hx hb hml hown hts hK hO hS hH hl.1 hei (c_X2_isFree Γ l (en i) (E i) f1 hei) ⟨Nat.le_of_ble_eq_true rfl, Nat.le_of_ble_eq_true rfl⟩ ⟨Nat.le_of_ble_eq_true rfl, Nat.le_of_ble_eq_true rfl⟩ rfl (Nat.le_of_ble_eq_true rfl) dX7_areEntriesRight_25 (fun v_ f_ H locs hp_ hH hS => ?_)
        obtain ⟨rfl, ef_⟩ := hp_
        rw [ef_] at hH
        clear ef_
        refine W.eq (g2 := F0 m 28 ls [.int (bI (decide ((E i).2.2.1 = 0)))]) rfl ?_
        refine lv_if_eq (tgt := 47) hx hb dX7_areEntriesRight_28 (by decide) (fun c2 => ?_) (fun c2 => ?_)
        · refine lv_aload_n hx hb dX7_areEntriesRight_47 rfl (lv_at hl 4 rfl) ?_
          refine lv_aload hx hb dX7_areEntriesRight_48 (lv_at hl 0 rfl) ?_
          have hnf : ¬ (E i).2.2.1 = 0 := of_decide_eq_false (bI_0.mp c2)
          obtain ⟨t, z, d, hd1, hd4, hz, hw, e1, e2, e3, e4, e5⟩ : _ := (hok i hi).resolve_left hnf
          have het : f1 (en i) = some (ev (b5 t, nI z, nI d, nI (wp d t z).1, (wp d t z).2, (E i).2.2.2.2.2.1, (E i).2.2.2.2.2.2)) := by rw [hei, ← e1, ← e2, ← e3, ← e4, ← e5]
          refine hm_callV (rest := []) (k := 13) q7_189 q7_191 q1_1 q7_192 q0_40 rfl nm_X7_isFoundPlainly rfl hx hb hml hown hts hK hO hS hH hl.1 hx1 (c_isFoundPlainly Γ l x0 lp lg lt ca tr pl lim rf so sp sh sm ca2 sl2 (en i) t z d (E i).2.2.2.2.2.1 (E i).2.2.2.2.2.2 f1 hx1 hP1 het hd1 hd4 hz hw) ⟨Nat.le_of_ble_eq_true rfl, Nat.le_of_ble_eq_true rfl⟩ ⟨Nat.le_of_ble_eq_true rfl, Nat.le_of_ble_eq_true rfl⟩ rfl (Nat.le_of_ble_eq_true rfl) dX7_areEntriesRight_50 (fun v_ f2_ H locs hp_ hH hS => ?_)
          obtain ⟨rfl, hP2, hfr2⟩ := hp_
          refine W.eq (g2 := F0 m 53 ls [.int 1]) rfl ?_
          refine lv_istore (lv' := [(5, .int 1), (4, .ref ((en i))), (3, .int (nI i)), (2, .int (nI 64)), (1, .ref sl), (0, .ref x0)]) hx hb dX7_areEntriesRight_53 hl (by decide) rfl (fun ls hl => ?_)
          refine lv_iload hx hb dX7_areEntriesRight_55 (lv_at hl 0 rfl) ?_
          refine lv_if_ne (tgt := 62) hx hb dX7_areEntriesRight_57 (by decide) (fun _ => ?_) (fun c3 => absurd c3 (by decide))
          refine lv_iinc (v := (nI (i + 1))) (lv' := [(3, .int ((nI (i + 1)))), (5, .int 1), (4, .ref ((en i))), (2, .int (nI 64)), (1, .ref sl), (0, .ref x0)]) hx hb dX7_areEntriesRight_62 hl (k := 2) rfl (nI_1 i) (by decide) rfl (fun ls hl => ?_)
          refine lv_goto (tgt := 13) hx hb dX7_areEntriesRight_65 (by decide) ?_
          exact ih (i + 1) f2_ (by omega) hP2 (hfr.tr hfr2) H locs hH hS ls (lv_sub hl [0, 3, 4, 5] rfl)
        · refine lv_aload hx hb dX7_areEntriesRight_31 (lv_at hl 0 rfl) ?_
          refine gf_X7_216 hx hb hts hown hK hH hei rfl dX7_areEntriesRight_33 ?_
          refine lv_if_ne (tgt := 43) hx hb dX7_areEntriesRight_36 (by decide) (fun c4 => absurd ((hfree i hi (of_decide_eq_true (bI_n.mp c2)))) c4) (fun _ => ?_)
          refine lv_iconst (v := 1) hx hb dX7_areEntriesRight_39 (by decide) ?_
          refine lv_goto (tgt := 53) hx hb dX7_areEntriesRight_40 (by decide) ?_
          refine lv_istore (lv' := [(5, .int 1), (4, .ref ((en i))), (3, .int (nI i)), (2, .int (nI 64)), (1, .ref sl), (0, .ref x0)]) hx hb dX7_areEntriesRight_53 hl (by decide) rfl (fun ls hl => ?_)
          refine lv_iload hx hb dX7_areEntriesRight_55 (lv_at hl 0 rfl) ?_
          refine lv_if_ne (tgt := 62) hx hb dX7_areEntriesRight_57 (by decide) (fun _ => ?_) (fun c5 => absurd c5 (by decide))
          refine lv_iinc (v := (nI (i + 1))) (lv' := [(3, .int ((nI (i + 1)))), (5, .int 1), (4, .ref ((en i))), (2, .int (nI 64)), (1, .ref sl), (0, .ref x0)]) hx hb dX7_areEntriesRight_62 hl (k := 2) rfl (nI_1 i) (by decide) rfl (fun ls hl => ?_)
          refine lv_goto (tgt := 13) hx hb dX7_areEntriesRight_65 (by decide) ?_
          exact ih (i + 1) f1 (by omega) hP1 hfr H locs hH hS ls (lv_sub hl [0, 3, 4, 5] rfl)
  obtain ⟨hc, ⟨g, hsl, hg⟩, hE, hinj⟩ := id hC
  refine lv_aload_n hx hb dX7_areEntriesRight_0 rfl (lv_at hl 0 rfl) ?_
  refine gf_X7_27 hx hb hts hown hK hH hx0 rfl dX7_areEntriesRight_1 ?_
  refine gf_X7_331 hx hb hts hown hK hH hc rfl dX7_areEntriesRight_4 ?_
  refine lv_astore_n (lv' := [(1, .ref sl), (0, .ref x0)]) hx hb dX7_areEntriesRight_7 rfl hl (by decide) rfl (fun ls hl => ?_)
  refine lv_aload_n hx hb dX7_areEntriesRight_8 rfl (lv_at hl 0 rfl) ?_
  refine hm_alen (v := 64) hx hb hK hH 3 hsl rfl rfl dX7_areEntriesRight_9 ?_
  refine lv_istore_n (lv' := [(2, .int 64), (1, .ref sl), (0, .ref x0)]) hx hb dX7_areEntriesRight_10 rfl hl (by decide) rfl (fun ls hl => ?_)
  refine lv_iconst (v := 0) hx hb dX7_areEntriesRight_11 (by decide) ?_
  refine lv_istore_n (lv' := [(3, .int 0), (2, .int 64), (1, .ref sl), (0, .ref x0)]) hx hb dX7_areEntriesRight_12 rfl hl (by decide) rfl (fun ls hl => ?_)
  exact loop 64 0 f (by omega) hP hm_fr.rf s.heap [] hH hS ls (lv_sub hl [0, 1, 2, 3] rfl)
