/-! TileWarden: what isSound asks -/
/-- a game: owner, board, z, score, pushes, row, longest row, paid, void -/
abbrev GS : Type := Nat × (Nat → Nat) × Nat × Int32 × Int32 × Int32 × Int32 × Int32 × Bool
abbrev gx (P : Nat → Nat) (i : Nat) (x : GS) : va_E := eR 3 [.ref (P x.1), .int (1 <<< (nI i &&& 31)), .long (b5 x.2.1), .int (nI x.2.2.1), .int x.2.2.2.1, .int x.2.2.2.2.1, .int x.2.2.2.2.2.1, .int x.2.2.2.2.2.2.1, .int x.2.2.2.2.2.2.2.1, .int (bI x.2.2.2.2.2.2.2.2)]
def sumP (gs : Nat → GS) (j : Nat) : Nat → Int32
  | 0 => 0
  | k + 1 => if (gs k).1 = j ∧ (gs k).2.2.2.2.2.2.2.2 = false then sumP gs j k + (gs k).2.2.2.2.2.2.2.1 else sumP gs j k
def sumV (gs : Nat → GS) : Nat → Int64
  | 0 => 0
  | k + 1 => sumV gs k + (if (gs k).2.2.2.2.2.2.2.2 = true then (gs k).2.2.2.2.2.2.2.1.toInt64 else 0)
/-- the search without a cache -/
def PLN (Γ : Gm) (f : Hm) (pl ca2 sl2 : Nat) : Prop := (∃ a b c : Int32, f pl = some (eR 5 [.ref ca2, .int a, .int b, .int c])) ∧ ∃ (en : Nat → Nat) (E : Nat → EV) (cn rm us : Int32), CA Γ f ca2 sl2 0 en E cn rm us
def pS (pl ca2 : Nat) : Nat → Prop := fun q => q = pl ∨ q = ca2
theorem c_lookP (Γ : Gm) (l : Launch) (pl ca2 sl2 : Nat) (t : Nat → Nat) (z d : Nat) (f : Hm) (hP : PLN Γ f pl ca2 sl2) (hd : d ≤ 4) (hz : z < 2 ^ 31) (hw : wt t + 4 * d ≤ 4000) : Ct Γ l yX7_look cX7_look 13 (some .int) (8 + d) 0 0 [.ref pl, .long (b5 t), .int (nI z), .int (nI d)] f (fun v f' => v = some (.int (nI (wp d t z).1)) ∧ PLN Γ f' pl ca2 sl2 ∧ (∃ a b p : Int32, f' pl = some (eR 5 [.ref ca2, .int a, .int b, .int p]) ∧ (d ≠ 0 → p = (wp d t z).2)) ∧ hm_fr (pS pl ca2) f f') := by
  obtain ⟨⟨a, b, c, hpl⟩, en, E, cn, rm, us, hC⟩ := hP
  refine (c_X7_look Γ l 0 ca2 sl2 pl en rm (by decide) d hd t z (E, cn, us, a, b) c f hz hw hC hpl (fun j hj => absurd hj (Nat.not_lt_zero _))).imp ?_
  rintro v f' ⟨h1, h2, ⟨p, h3, h4⟩, -, h5⟩
  exact ⟨h1, ⟨⟨_, _, p, h3⟩, en, _, _, rm, _, h2⟩, ⟨_, _, p, h3, h4⟩, h5.mono (fun q hq => by rcases hq with q1 | q1 | ⟨i, hi, _⟩; exact Or.inl q1; exact Or.inr q1; exact absurd hi (Nat.not_lt_zero _))⟩
set_option maxHeartbeats 4000000 in
set_option maxRecDepth 100000 in
theorem c_paidForGood (Γ : Gm) (l : Launch) (x0 lp lg lt ca tr pl : Nat) (lim : Int32) (rf so sp sh sm : Int64) (ar cap n : Nat) (L P : Nat → Nat) (gs : Nat → GS) (j np : Nat) (f : Hm) (hx0 : f x0 = some (eR 7 [.ref lp, .ref lg, .ref lt, .ref ca, .ref tr, .ref pl, .int lim, .long rf, .long so, .long sp, .long sh, .long sm])) (hL : LI Γ f lg ar cap n L) (hn : n ≤ 60) (hc : cap < 2 ^ 31) (hG : ∀ i, i < n → f (L i) = some (gx P i (gs i))) (how : ∀ i, i < n → (gs i).1 < np) (hj : j < np) (hPi : ∀ a b, a < np → b < np → P a = P b → a = b) : Ct Γ l yX7_paidForGood cX7_paidForGood 5 (some .int) 4 0 0 [.ref x0, .ref ((P j))] f (pI (sumP gs j n) f) := by
  refine Ct_of (by decide +kernel) (Nat.le_of_ble_eq_true rfl) ?_
  intro p e s m args below meth c hx hb hr hml hown hin hlocks hts hH hO hK ls hl
  have hl : lv_has ls 5 [(0, .ref x0), (1, .ref ((P j)))] := hl
  have hS : va_S (gA Γ) s.heap s.heap [] := va_S.rf
  obtain ⟨⟨moL, hlL⟩, -⟩ := id hL
  have loop : ∀ (k_ i : Nat), i + k_ = n → ∀ (H : Heap) (locs : List Loc), hm_H Γ f H → va_S (gA Γ) s.heap H locs → ∀ ls : Array Slot, lv_has ls 5 [(3, .int (nI i)), (2, .int (sumP gs j i)), (0, .ref x0), (1, .ref ((P j)))] → W p l e (rmk 4 0 0) s m args below meth c H locs 0 0 (MQ below (hm_Q Γ (pI (sumP gs j n) f)) args s 0 0 (gA Γ)) (F0 m 4 ls []) := by
    intro k_
    induction k_ with
      | zero =>
        intro i hin_ H locs hH hS ls hl
        have hi : i = n := by omega
        subst hi
        refine lv_iload_n hx hb dX7_paidForGood_4 rfl (lv_at hl 0 rfl) ?_
        refine lv_aload_n hx hb dX7_paidForGood_5 rfl (lv_at hl 2 rfl) ?_
        refine gf_X7_16 hx hb hts hown hK hH hx0 rfl dX7_paidForGood_6 ?_
        refine hm_callV (rest := [.int (nI i)]) (k := 1) q1_210 q1_211 q1_4 q1_213 q1_212 rfl nm_Jx4a65c_size_8abf5 rfl hx hb hml hown hts hK hO hS hH hl.1 hlL (c_size Γ l lg ar cap i L f hL) ⟨Nat.le_of_ble_eq_true rfl, Nat.le_of_ble_eq_true rfl⟩ ⟨Nat.le_of_ble_eq_true rfl, Nat.le_of_ble_eq_true rfl⟩ rfl (Nat.le_of_ble_eq_true rfl) dX7_paidForGood_9 (fun v_ f_ H locs hp_ hH hS => ?_)
        obtain ⟨rfl, ef_⟩ := hp_
        rw [ef_] at hH
        clear ef_
        refine W.eq (g2 := F0 m 12 ls [.int (nI i), .int (nI i)]) rfl ?_
        refine lv_icmp_ge (tgt := 59) hx hb dX7_paidForGood_12 (by decide) (fun _ => ?_) (fun c1 => absurd (nI_le (Nat.le_refl _) (by omega)) c1)
        refine lv_iload_n hx hb dX7_paidForGood_59 rfl (lv_at hl 1 rfl) ?_
        exact hm_iret hx hb hr hlocks hS hH (pI_of (rfl)) (Nat.le_of_ble_eq_true rfl) (Nat.le_of_ble_eq_true rfl) dX7_paidForGood_60
      | succ k_ ih =>
        intro i hin_ H locs hH hS ls hl
        have hi : i < n := by omega
        refine lv_iload_n hx hb dX7_paidForGood_4 rfl (lv_at hl 0 rfl) ?_
        refine lv_aload_n hx hb dX7_paidForGood_5 rfl (lv_at hl 2 rfl) ?_
        refine gf_X7_16 hx hb hts hown hK hH hx0 rfl dX7_paidForGood_6 ?_
        refine hm_callV (rest := [.int (nI i)]) (k := 1) q1_210 q1_211 q1_4 q1_213 q1_212 rfl nm_Jx4a65c_size_8abf5 rfl hx hb hml hown hts hK hO hS hH hl.1 hlL (c_size Γ l lg ar cap n L f hL) ⟨Nat.le_of_ble_eq_true rfl, Nat.le_of_ble_eq_true rfl⟩ ⟨Nat.le_of_ble_eq_true rfl, Nat.le_of_ble_eq_true rfl⟩ rfl (Nat.le_of_ble_eq_true rfl) dX7_paidForGood_9 (fun v_ f_ H locs hp_ hH hS => ?_)
        obtain ⟨rfl, ef_⟩ := hp_
        rw [ef_] at hH
        clear ef_
        refine W.eq (g2 := F0 m 12 ls [.int (nI n), .int (nI i)]) rfl ?_
        refine lv_icmp_ge (tgt := 59) hx hb dX7_paidForGood_12 (by decide) (fun c1 => absurd c1 (nI_ge hi (by omega))) (fun _ => ?_)
        refine lv_aload_n hx hb dX7_paidForGood_15 rfl (lv_at hl 2 rfl) ?_
        refine gf_X7_16 hx hb hts hown hK hH hx0 rfl dX7_paidForGood_16 ?_
        refine lv_iload_n hx hb dX7_paidForGood_19 rfl (lv_at hl 0 rfl) ?_
        have hTi := hG i hi
        refine hm_callV (rest := []) (k := 3) q2_229 q2_230 q1_4 q2_232 q2_231 rfl nm_Jx4a65c_get_915e3 rfl hx hb hml hown hts hK hO hS hH hl.1 hlL (c_get Γ l lg ar cap n L i f hL hi hc) ⟨Nat.le_of_ble_eq_true rfl, Nat.le_of_ble_eq_true rfl⟩ ⟨Nat.le_of_ble_eq_true rfl, Nat.le_of_ble_eq_true rfl⟩ rfl (Nat.le_of_ble_eq_true rfl) dX7_paidForGood_20 (fun v_ f_ H locs hp_ hH hS => ?_)
        obtain ⟨rfl, ef_⟩ := hp_
        rw [ef_] at hH
        clear ef_
        refine W.eq (g2 := F0 m 23 ls [.ref ((L i))]) rfl ?_
        refine hm_castR hx hb hts hown q3_5 hK hH hTi rfl dX7_paidForGood_23 ?_
        refine lv_astore (lv' := [(4, .ref ((L i))), (3, .int (nI i)), (2, .int (sumP gs j i)), (0, .ref x0), (1, .ref ((P j)))]) hx hb dX7_paidForGood_26 hl (by decide) rfl (fun ls hl => ?_)
        refine lv_aload hx hb dX7_paidForGood_28 (lv_at hl 0 rfl) ?_
        refine gf_X7_168 hx hb hts hown hK hH hTi rfl dX7_paidForGood_30 ?_
        refine lv_aload_n hx hb dX7_paidForGood_33 rfl (lv_at hl 4 rfl) ?_
        refine lv_acmp_ne (rx := some ((P (gs i).1))) (ry := some ((P j))) (tgt := 53) hx hb dX7_paidForGood_34 (by decide) (fun c2 => ?_) (fun c2 => ?_)
        · refine lv_iinc (v := (nI (i + 1))) (lv' := [(3, .int ((nI (i + 1)))), (4, .ref ((L i))), (2, .int (sumP gs j i)), (0, .ref x0), (1, .ref ((P j)))]) hx hb dX7_paidForGood_53 hl (k := 1) rfl (nI_1 i) (by decide) rfl (fun ls hl => ?_)
          refine lv_goto (tgt := 4) hx hb dX7_paidForGood_56 (by decide) ?_
          have hs : sumP gs j (i + 1) = sumP gs j i := if_neg (fun q => c2 (by rw [q.1]))
          refine ih (i + 1) (by omega) H locs hH hS ls ?_
          rw [hs]
          exact lv_sub hl [0, 2, 3, 4] rfl
        · refine lv_aload hx hb dX7_paidForGood_37 (lv_at hl 0 rfl) ?_
          refine gf_X7_108 hx hb hts hown hK hH hTi rfl dX7_paidForGood_39 ?_
          refine lv_if_ne (tgt := 53) hx hb dX7_paidForGood_42 (by decide) (fun c3 => ?_) (fun c3 => ?_)
          · refine lv_iinc (v := (nI (i + 1))) (lv' := [(3, .int ((nI (i + 1)))), (4, .ref ((L i))), (2, .int (sumP gs j i)), (0, .ref x0), (1, .ref ((P j)))]) hx hb dX7_paidForGood_53 hl (k := 1) rfl (nI_1 i) (by decide) rfl (fun ls hl => ?_)
            refine lv_goto (tgt := 4) hx hb dX7_paidForGood_56 (by decide) ?_
            have hs : sumP gs j (i + 1) = sumP gs j i := if_neg (fun q => c3 (by rw [q.2]; rfl))
            refine ih (i + 1) (by omega) H locs hH hS ls ?_
            rw [hs]
            exact lv_sub hl [0, 2, 3, 4] rfl
          · refine lv_iload_n hx hb dX7_paidForGood_45 rfl (lv_at hl 2 rfl) ?_
            refine lv_aload hx hb dX7_paidForGood_46 (lv_at hl 0 rfl) ?_
            refine gf_X7_237 hx hb hts hown hK hH hTi rfl dX7_paidForGood_48 ?_
            refine lv_iadd hx hb dX7_paidForGood_51 ?_
            refine lv_topi (fun v4 ev4 => ?_)
            replace ev4 : v4 = (sumP gs j i + (gs i).2.2.2.2.2.2.2.1) := ev4.trans (rfl)
            subst ev4
            refine lv_istore_n (lv' := [(2, .int ((sumP gs j i + (gs i).2.2.2.2.2.2.2.1))), (4, .ref ((L i))), (3, .int (nI i)), (0, .ref x0), (1, .ref ((P j)))]) hx hb dX7_paidForGood_52 rfl hl (by decide) rfl (fun ls hl => ?_)
            refine lv_iinc (v := (nI (i + 1))) (lv' := [(3, .int ((nI (i + 1)))), (2, .int ((sumP gs j i + (gs i).2.2.2.2.2.2.2.1))), (4, .ref ((L i))), (0, .ref x0), (1, .ref ((P j)))]) hx hb dX7_paidForGood_53 hl (k := 2) rfl (nI_1 i) (by decide) rfl (fun ls hl => ?_)
            refine lv_goto (tgt := 4) hx hb dX7_paidForGood_56 (by decide) ?_
            have hs : sumP gs j (i + 1) = (sumP gs j i + (gs i).2.2.2.2.2.2.2.1) := if_pos ⟨hPi _ _ (how i hi) hj (Option.some.inj c2), bI_0.mp c3⟩
            refine ih (i + 1) (by omega) H locs hH hS ls ?_
            rw [hs]
            exact lv_sub hl [0, 1, 3, 4] rfl
  refine lv_iconst (v := 0) hx hb dX7_paidForGood_0 (by decide) ?_
  refine lv_istore_n (lv' := [(2, .int 0), (0, .ref x0), (1, .ref ((P j)))]) hx hb dX7_paidForGood_1 rfl hl (by decide) rfl (fun ls hl => ?_)
  refine lv_iconst (v := 0) hx hb dX7_paidForGood_2 (by decide) ?_
  refine lv_istore_n (lv' := [(3, .int 0), (2, .int 0), (0, .ref x0), (1, .ref ((P j)))]) hx hb dX7_paidForGood_3 rfl hl (by decide) rfl (fun ls hl => ?_)
  exact loop n 0 (by omega) s.heap [] hH hS ls (lv_sub hl [0, 1, 2, 3] rfl)
set_option maxHeartbeats 4000000 in
set_option maxRecDepth 100000 in
theorem c_areRefundsRight (Γ : Gm) (l : Launch) (x0 lp lg lt ca tr pl : Nat) (lim : Int32) (rf so sp sh sm : Int64) (ar cap n : Nat) (L P : Nat → Nat) (gs : Nat → GS) (f : Hm) (hx0 : f x0 = some (eR 7 [.ref lp, .ref lg, .ref lt, .ref ca, .ref tr, .ref pl, .int lim, .long rf, .long so, .long sp, .long sh, .long sm])) (hL : LI Γ f lg ar cap n L) (hn : n ≤ 60) (hc : cap < 2 ^ 31) (hG : ∀ i, i < n → f (L i) = some (gx P i (gs i))) (hrf : rf = sumV gs n) : Ct Γ l yX7_areRefundsRight cX7_areRefundsRight 5 (some .boolean) 4 0 0 [.ref x0] f (pI 1 f) := by
  refine Ct_of (by decide +kernel) (Nat.le_of_ble_eq_true rfl) ?_
  intro p e s m args below meth c hx hb hr hml hown hin hlocks hts hH hO hK ls hl
  have hl : lv_has ls 5 [(0, .ref x0)] := hl
  have hS : va_S (gA Γ) s.heap s.heap [] := va_S.rf
  obtain ⟨⟨moL, hlL⟩, -⟩ := id hL
  have loop : ∀ (k_ i : Nat), i + k_ = n → ∀ (H : Heap) (locs : List Loc), hm_H Γ f H → va_S (gA Γ) s.heap H locs → ∀ ls : Array Slot, lv_has ls 5 [(3, .int (nI i)), (1, .long (sumV gs i)), (0, .ref x0)] → W p l e (rmk 4 0 0) s m args below meth c H locs 0 0 (MQ below (hm_Q Γ (pI 1 f)) args s 0 0 (gA Γ)) (F0 m 4 ls []) := by
    intro k_
    induction k_ with
      | zero =>
        intro i hin_ H locs hH hS ls hl
        have hi : i = n := by omega
        subst hi
        refine lv_iload_n hx hb dX7_areRefundsRight_4 rfl (lv_at hl 0 rfl) ?_
        refine lv_aload_n hx hb dX7_areRefundsRight_5 rfl (lv_at hl 2 rfl) ?_
        refine gf_X7_16 hx hb hts hown hK hH hx0 rfl dX7_areRefundsRight_6 ?_
        refine hm_callV (rest := [.int (nI i)]) (k := 1) q1_210 q1_211 q1_4 q1_213 q1_212 rfl nm_Jx4a65c_size_8abf5 rfl hx hb hml hown hts hK hO hS hH hl.1 hlL (c_size Γ l lg ar cap i L f hL) ⟨Nat.le_of_ble_eq_true rfl, Nat.le_of_ble_eq_true rfl⟩ ⟨Nat.le_of_ble_eq_true rfl, Nat.le_of_ble_eq_true rfl⟩ rfl (Nat.le_of_ble_eq_true rfl) dX7_areRefundsRight_9 (fun v_ f_ H locs hp_ hH hS => ?_)
        obtain ⟨rfl, ef_⟩ := hp_
        rw [ef_] at hH
        clear ef_
        refine W.eq (g2 := F0 m 12 ls [.int (nI i), .int (nI i)]) rfl ?_
        refine lv_icmp_ge (tgt := 55) hx hb dX7_areRefundsRight_12 (by decide) (fun _ => ?_) (fun c1 => absurd (nI_le (Nat.le_refl _) (by omega)) c1)
        refine lv_aload_n hx hb dX7_areRefundsRight_55 rfl (lv_at hl 2 rfl) ?_
        refine gf_X7_47 hx hb hts hown hK hH hx0 rfl dX7_areRefundsRight_56 ?_
        refine lv_lload_n hx hb dX7_areRefundsRight_59 rfl (lv_at hl 1 rfl) ?_
        refine W.lcmp hx hb dX7_areRefundsRight_60 ?_
        refine lv_if_ne (tgt := 68) hx hb dX7_areRefundsRight_61 (by decide) (fun c3 => ?_) (fun c3 => ?_)
        · refine lv_iconst (v := 0) hx hb dX7_areRefundsRight_68 (by decide) ?_
          exact hm_zret hx hb hr rfl hlocks hS hH (pI_of (absurd (m_cmp.mpr hrf) c3)) (Nat.le_of_ble_eq_true rfl) (Nat.le_of_ble_eq_true rfl) dX7_areRefundsRight_69
        · refine lv_iconst (v := 1) hx hb dX7_areRefundsRight_64 (by decide) ?_
          refine lv_goto (tgt := 69) hx hb dX7_areRefundsRight_65 (by decide) ?_
          exact hm_zret hx hb hr rfl hlocks hS hH (pI_of rfl) (Nat.le_of_ble_eq_true rfl) (Nat.le_of_ble_eq_true rfl) dX7_areRefundsRight_69
      | succ k_ ih =>
        intro i hin_ H locs hH hS ls hl
        have hi : i < n := by omega
        refine lv_iload_n hx hb dX7_areRefundsRight_4 rfl (lv_at hl 0 rfl) ?_
        refine lv_aload_n hx hb dX7_areRefundsRight_5 rfl (lv_at hl 2 rfl) ?_
        refine gf_X7_16 hx hb hts hown hK hH hx0 rfl dX7_areRefundsRight_6 ?_
        refine hm_callV (rest := [.int (nI i)]) (k := 1) q1_210 q1_211 q1_4 q1_213 q1_212 rfl nm_Jx4a65c_size_8abf5 rfl hx hb hml hown hts hK hO hS hH hl.1 hlL (c_size Γ l lg ar cap n L f hL) ⟨Nat.le_of_ble_eq_true rfl, Nat.le_of_ble_eq_true rfl⟩ ⟨Nat.le_of_ble_eq_true rfl, Nat.le_of_ble_eq_true rfl⟩ rfl (Nat.le_of_ble_eq_true rfl) dX7_areRefundsRight_9 (fun v_ f_ H locs hp_ hH hS => ?_)
        obtain ⟨rfl, ef_⟩ := hp_
        rw [ef_] at hH
        clear ef_
        refine W.eq (g2 := F0 m 12 ls [.int (nI n), .int (nI i)]) rfl ?_
        refine lv_icmp_ge (tgt := 55) hx hb dX7_areRefundsRight_12 (by decide) (fun c1 => absurd c1 (nI_ge hi (by omega))) (fun _ => ?_)
        refine lv_aload_n hx hb dX7_areRefundsRight_15 rfl (lv_at hl 2 rfl) ?_
        refine gf_X7_16 hx hb hts hown hK hH hx0 rfl dX7_areRefundsRight_16 ?_
        refine lv_iload_n hx hb dX7_areRefundsRight_19 rfl (lv_at hl 0 rfl) ?_
        have hTi := hG i hi
        refine hm_callV (rest := []) (k := 3) q2_229 q2_230 q1_4 q2_232 q2_231 rfl nm_Jx4a65c_get_915e3 rfl hx hb hml hown hts hK hO hS hH hl.1 hlL (c_get Γ l lg ar cap n L i f hL hi hc) ⟨Nat.le_of_ble_eq_true rfl, Nat.le_of_ble_eq_true rfl⟩ ⟨Nat.le_of_ble_eq_true rfl, Nat.le_of_ble_eq_true rfl⟩ rfl (Nat.le_of_ble_eq_true rfl) dX7_areRefundsRight_20 (fun v_ f_ H locs hp_ hH hS => ?_)
        obtain ⟨rfl, ef_⟩ := hp_
        rw [ef_] at hH
        clear ef_
        refine W.eq (g2 := F0 m 23 ls [.ref ((L i))]) rfl ?_
        refine hm_castR hx hb hts hown q3_5 hK hH hTi rfl dX7_areRefundsRight_23 ?_
        refine lv_astore (lv' := [(4, .ref ((L i))), (3, .int (nI i)), (1, .long (sumV gs i)), (0, .ref x0)]) hx hb dX7_areRefundsRight_26 hl (by decide) rfl (fun ls hl => ?_)
        refine lv_lload_n hx hb dX7_areRefundsRight_28 rfl (lv_at hl 2 rfl) ?_
        refine lv_aload hx hb dX7_areRefundsRight_29 (lv_at hl 0 rfl) ?_
        refine gf_X7_108 hx hb hts hown hK hH hTi rfl dX7_areRefundsRight_31 ?_
        refine lv_if_eq (tgt := 46) hx hb dX7_areRefundsRight_34 (by decide) (fun c2 => ?_) (fun c2 => ?_)
        · refine lv_lconst (v := 0) hx hb dX7_areRefundsRight_46 (by decide) ?_
          refine lv_ladd hx hb dX7_areRefundsRight_47 ?_
          refine lv_topl (fun v3 ev3 => ?_)
          replace ev3 : v3 = (sumV gs i + 0) := ev3.trans (rfl)
          subst ev3
          refine lv_lstore_n (lv' := [(1, .long ((sumV gs i + 0))), (4, .ref ((L i))), (3, .int (nI i)), (0, .ref x0)]) hx hb dX7_areRefundsRight_48 rfl hl (by decide) rfl (fun ls hl => ?_)
          refine lv_iinc (v := (nI (i + 1))) (lv' := [(3, .int ((nI (i + 1)))), (1, .long ((sumV gs i + 0))), (4, .ref ((L i))), (0, .ref x0)]) hx hb dX7_areRefundsRight_49 hl (k := 2) rfl (nI_1 i) (by decide) rfl (fun ls hl => ?_)
          refine lv_goto (tgt := 4) hx hb dX7_areRefundsRight_52 (by decide) ?_
          have hs : sumV gs (i + 1) = (sumV gs i + 0) := by show _ + _ = _; rw [if_neg (by rw [bI_0.mp c2]; decide)]
          refine ih (i + 1) (by omega) H locs hH hS ls ?_
          rw [hs]
          exact lv_sub hl [0, 1, 3] rfl
        · refine lv_aload hx hb dX7_areRefundsRight_37 (lv_at hl 0 rfl) ?_
          refine gf_X7_237 hx hb hts hown hK hH hTi rfl dX7_areRefundsRight_39 ?_
          refine lv_i2l hx hb dX7_areRefundsRight_42 rfl ?_
          refine lv_topl (fun v4 ev4 => ?_)
          replace ev4 : v4 = ((gs i).2.2.2.2.2.2.2.1.toInt64) := ev4.trans (rfl)
          subst ev4
          refine lv_goto (tgt := 47) hx hb dX7_areRefundsRight_43 (by decide) ?_
          refine lv_ladd hx hb dX7_areRefundsRight_47 ?_
          refine lv_topl (fun v5 ev5 => ?_)
          replace ev5 : v5 = (sumV gs i + (((gs i).2.2.2.2.2.2.2.1.toInt64))) := ev5.trans (rfl)
          subst ev5
          refine lv_lstore_n (lv' := [(1, .long ((sumV gs i + (((gs i).2.2.2.2.2.2.2.1.toInt64))))), (4, .ref ((L i))), (3, .int (nI i)), (0, .ref x0)]) hx hb dX7_areRefundsRight_48 rfl hl (by decide) rfl (fun ls hl => ?_)
          refine lv_iinc (v := (nI (i + 1))) (lv' := [(3, .int ((nI (i + 1)))), (1, .long ((sumV gs i + (((gs i).2.2.2.2.2.2.2.1.toInt64))))), (4, .ref ((L i))), (0, .ref x0)]) hx hb dX7_areRefundsRight_49 hl (k := 2) rfl (nI_1 i) (by decide) rfl (fun ls hl => ?_)
          refine lv_goto (tgt := 4) hx hb dX7_areRefundsRight_52 (by decide) ?_
          have hs : sumV gs (i + 1) = (sumV gs i + (gs i).2.2.2.2.2.2.2.1.toInt64) := by show _ + _ = _; rw [if_pos (bI_n.mp c2)]
          refine ih (i + 1) (by omega) H locs hH hS ls ?_
          rw [hs]
          exact lv_sub hl [0, 1, 3] rfl
  refine lv_lconst (v := 0) hx hb dX7_areRefundsRight_0 (by decide) ?_
  refine lv_lstore_n (lv' := [(1, .long 0), (0, .ref x0)]) hx hb dX7_areRefundsRight_1 rfl hl (by decide) rfl (fun ls hl => ?_)
  refine lv_iconst (v := 0) hx hb dX7_areRefundsRight_2 (by decide) ?_
  refine lv_istore_n (lv' := [(3, .int 0), (1, .long 0), (0, .ref x0)]) hx hb dX7_areRefundsRight_3 rfl hl (by decide) rfl (fun ls hl => ?_)
  exact loop n 0 (by omega) s.heap [] hH hS ls (lv_sub hl [0, 1, 2] rfl)
set_option maxHeartbeats 4000000 in
set_option maxRecDepth 100000 in
theorem c_arePursesRight (Γ : Gm) (l : Launch) (x0 lp lg lt ca tr pl : Nat) (lim : Int32) (rf so sp sh sm : Int64) (ar cap n : Nat) (m0 mo : Nat → Int32) (ag cg ng : Nat) (G P : Nat → Nat) (gs : Nat → GS) (f : Hm) (hx0 : f x0 = some (eR 7 [.ref lp, .ref lg, .ref lt, .ref ca, .ref tr, .ref pl, .int lim, .long rf, .long so, .long sp, .long sh, .long sm])) (hL : LI Γ f lp ar cap n P) (hn : n ≤ 60) (hc : cap < 2 ^ 31) (hT : ∀ i, i < n → f (P i) = some (eR 4 [.int (nI i), .int (m0 i), .int (mo i)])) (hLg : LI Γ f lg ag cg ng G) (hng : ng ≤ 60) (hcg : cg < 2 ^ 31) (hG : ∀ i, i < ng → f (G i) = some (gx P i (gs i))) (how : ∀ i, i < ng → (gs i).1 < n) (hPi : ∀ a b, a < n → b < n → P a = P b → a = b) (hmon : ∀ i, i < n → mo i = m0 i - sumP gs i ng) : Ct Γ l yX7_arePursesRight cX7_arePursesRight 3 (some .boolean) 5 0 0 [.ref x0] f (pI 1 f) := by
  refine Ct_of (by decide +kernel) (Nat.le_of_ble_eq_true rfl) ?_
  intro p e s m args below meth c hx hb hr hml hown hin hlocks hts hH hO hK ls hl
  have hl : lv_has ls 3 [(0, .ref x0)] := hl
  have hS : va_S (gA Γ) s.heap s.heap [] := va_S.rf
  obtain ⟨⟨moL, hlL⟩, -⟩ := id hL
  have loop : ∀ (k_ i : Nat), i + k_ = n → ∀ (H : Heap) (locs : List Loc), hm_H Γ f H → va_S (gA Γ) s.heap H locs → ∀ ls : Array Slot, lv_has ls 3 [(1, .int (nI i)), (0, .ref x0)] → W p l e (rmk 5 0 0) s m args below meth c H locs 0 0 (MQ below (hm_Q Γ (pI 1 f)) args s 0 0 (gA Γ)) (F0 m 2 ls []) := by
    intro k_
    induction k_ with
      | zero =>
        intro i hin_ H locs hH hS ls hl
        have hi : i = n := by omega
        subst hi
        refine lv_iload_n hx hb dX7_arePursesRight_2 rfl (lv_at hl 0 rfl) ?_
        refine lv_aload_n hx hb dX7_arePursesRight_3 rfl (lv_at hl 1 rfl) ?_
        refine gf_X7_10 hx hb hts hown hK hH hx0 rfl dX7_arePursesRight_4 ?_
        refine hm_callV (rest := [.int (nI i)]) (k := 1) q1_210 q1_211 q1_4 q1_213 q1_212 rfl nm_Jx4a65c_size_8abf5 rfl hx hb hml hown hts hK hO hS hH hl.1 hlL (c_size Γ l lp ar cap i P f hL) ⟨Nat.le_of_ble_eq_true rfl, Nat.le_of_ble_eq_true rfl⟩ ⟨Nat.le_of_ble_eq_true rfl, Nat.le_of_ble_eq_true rfl⟩ rfl (Nat.le_of_ble_eq_true rfl) dX7_arePursesRight_7 (fun v_ f_ H locs hp_ hH hS => ?_)
        obtain ⟨rfl, ef_⟩ := hp_
        rw [ef_] at hH
        clear ef_
        refine W.eq (g2 := F0 m 10 ls [.int (nI i), .int (nI i)]) rfl ?_
        refine lv_icmp_ge (tgt := 50) hx hb dX7_arePursesRight_10 (by decide) (fun _ => ?_) (fun c1 => absurd (nI_le (Nat.le_refl _) (by omega)) c1)
        refine lv_iconst (v := 1) hx hb dX7_arePursesRight_50 (by decide) ?_
        exact hm_zret hx hb hr rfl hlocks hS hH (pI_of rfl) (Nat.le_of_ble_eq_true rfl) (Nat.le_of_ble_eq_true rfl) dX7_arePursesRight_51
      | succ k_ ih =>
        intro i hin_ H locs hH hS ls hl
        have hi : i < n := by omega
        refine lv_iload_n hx hb dX7_arePursesRight_2 rfl (lv_at hl 0 rfl) ?_
        refine lv_aload_n hx hb dX7_arePursesRight_3 rfl (lv_at hl 1 rfl) ?_
        refine gf_X7_10 hx hb hts hown hK hH hx0 rfl dX7_arePursesRight_4 ?_
        refine hm_callV (rest := [.int (nI i)]) (k := 1) q1_210 q1_211 q1_4 q1_213 q1_212 rfl nm_Jx4a65c_size_8abf5 rfl hx hb hml hown hts hK hO hS hH hl.1 hlL (c_size Γ l lp ar cap n P f hL) ⟨Nat.le_of_ble_eq_true rfl, Nat.le_of_ble_eq_true rfl⟩ ⟨Nat.le_of_ble_eq_true rfl, Nat.le_of_ble_eq_true rfl⟩ rfl (Nat.le_of_ble_eq_true rfl) dX7_arePursesRight_7 (fun v_ f_ H locs hp_ hH hS => ?_)
        obtain ⟨rfl, ef_⟩ := hp_
        rw [ef_] at hH
        clear ef_
        refine W.eq (g2 := F0 m 10 ls [.int (nI n), .int (nI i)]) rfl ?_
        refine lv_icmp_ge (tgt := 50) hx hb dX7_arePursesRight_10 (by decide) (fun c1 => absurd c1 (nI_ge hi (by omega))) (fun _ => ?_)
        refine lv_aload_n hx hb dX7_arePursesRight_13 rfl (lv_at hl 1 rfl) ?_
        refine gf_X7_10 hx hb hts hown hK hH hx0 rfl dX7_arePursesRight_14 ?_
        refine lv_iload_n hx hb dX7_arePursesRight_17 rfl (lv_at hl 0 rfl) ?_
        have hTi := hT i hi
        refine hm_callV (rest := []) (k := 3) q2_229 q2_230 q1_4 q2_232 q2_231 rfl nm_Jx4a65c_get_915e3 rfl hx hb hml hown hts hK hO hS hH hl.1 hlL (c_get Γ l lp ar cap n P i f hL hi hc) ⟨Nat.le_of_ble_eq_true rfl, Nat.le_of_ble_eq_true rfl⟩ ⟨Nat.le_of_ble_eq_true rfl, Nat.le_of_ble_eq_true rfl⟩ rfl (Nat.le_of_ble_eq_true rfl) dX7_arePursesRight_18 (fun v_ f_ H locs hp_ hH hS => ?_)
        obtain ⟨rfl, ef_⟩ := hp_
        rw [ef_] at hH
        clear ef_
        refine W.eq (g2 := F0 m 21 ls [.ref ((P i))]) rfl ?_
        refine hm_castR hx hb hts hown q2_96 hK hH hTi rfl dX7_arePursesRight_21 ?_
        refine lv_astore_n (lv' := [(2, .ref ((P i))), (1, .int (nI i)), (0, .ref x0)]) hx hb dX7_arePursesRight_24 rfl hl (by decide) rfl (fun ls hl => ?_)
        refine lv_aload_n hx hb dX7_arePursesRight_25 rfl (lv_at hl 0 rfl) ?_
        refine gf_X7_172 hx hb hts hown hK hH hTi rfl dX7_arePursesRight_26 ?_
        refine lv_aload_n hx hb dX7_arePursesRight_29 rfl (lv_at hl 0 rfl) ?_
        refine gf_X7_347 hx hb hts hown hK hH hTi rfl dX7_arePursesRight_30 ?_
        refine lv_aload_n hx hb dX7_arePursesRight_33 rfl (lv_at hl 2 rfl) ?_
        refine lv_aload_n hx hb dX7_arePursesRight_34 rfl (lv_at hl 0 rfl) ?_
        refine hm_callV (rest := [.int (m0 i), .int (mo i)]) (k := 4) q7_201 q7_203 q1_1 q7_204 q0_43 rfl nm_X7_paidForGood rfl hx hb hml hown hts hK hO hS hH hl.1 hx0 (c_paidForGood Γ l x0 lp lg lt ca tr pl lim rf so sp sh sm ag cg ng G P gs i n f hx0 hLg hng hcg hG how hi hPi) ⟨Nat.le_of_ble_eq_true rfl, Nat.le_of_ble_eq_true rfl⟩ ⟨Nat.le_of_ble_eq_true rfl, Nat.le_of_ble_eq_true rfl⟩ rfl (Nat.le_of_ble_eq_true rfl) dX7_arePursesRight_35 (fun v_ f_ H locs hp_ hH hS => ?_)
        obtain ⟨rfl, ef_⟩ := hp_
        rw [ef_] at hH
        clear ef_
        refine W.eq (g2 := F0 m 38 ls [.int (sumP gs i ng), .int (m0 i), .int (mo i)]) rfl ?_
        refine lv_isub hx hb dX7_arePursesRight_38 ?_
        refine lv_topi (fun v2 ev2 => ?_)
        replace ev2 : v2 = (m0 i - sumP gs i ng) := ev2.trans (rfl)
        subst ev2
        refine lv_icmp_eq (tgt := 44) hx hb dX7_arePursesRight_39 (by decide) (fun _ => ?_) (fun c3 => absurd (hmon i hi) c3)
        refine lv_iinc (v := (nI (i + 1))) (lv' := [(1, .int ((nI (i + 1)))), (2, .ref ((P i))), (0, .ref x0)]) hx hb dX7_arePursesRight_44 hl (k := 1) rfl (nI_1 i) (by decide) rfl (fun ls hl => ?_)
        refine lv_goto (tgt := 2) hx hb dX7_arePursesRight_47 (by decide) ?_
        exact ih (i + 1) (by omega) H locs hH hS ls (lv_sub hl [0, 2] rfl)
  refine lv_iconst (v := 0) hx hb dX7_arePursesRight_0 (by decide) ?_
  refine lv_istore_n (lv' := [(1, .int 0), (0, .ref x0)]) hx hb dX7_arePursesRight_1 rfl hl (by decide) rfl (fun ls hl => ?_)
  exact loop n 0 (by omega) s.heap [] hH hS ls (lv_sub hl [0, 1] rfl)
