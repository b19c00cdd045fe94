/-! TileWarden: following, and a hint tried and sold -/
theorem cS_not {Γ : Gm} {f : Hm} {c sl n : Nat} {en : Nat → Nat} {E : Nat → EV} {cn rm us : Int32} (hC : CA Γ f c sl n en E cn rm us) {b ci : Nat} {fs : List Value} (hb : f b = some (eR ci fs)) (h1 : ci ≠ 1) (h2 : ci ≠ 2) : ¬ cS c n en b := by
  rintro (q | ⟨i, hi, q⟩)
  · exact hm_ne hb hC.1 (fun z => by injection z with z; injection z with z; exact h1 z) q
  · exact hm_ne hb (hC.2.2.1 i hi) (fun z => by injection z with z; injection z with z; exact h2 z) q
theorem sS_not {Γ : Gm} {f : Hm} {se c sl n : Nat} {en : Nat → Nat} {E : Nat → EV} {cn rm us : Int32} {gs : List Value} (hC : CA Γ f c sl n en E cn rm us) (hs : f se = some (eR 5 gs)) {b ci : Nat} {fs : List Value} (hb : f b = some (eR ci fs)) (h1 : ci ≠ 1) (h2 : ci ≠ 2) (h5 : ci ≠ 5) : ¬ sS se c n en b := by
  rintro (q | q)
  · exact hm_ne hb hs (fun z => by injection z with z; injection z with z; exact h5 z) q
  · exact cS_not hC hb h1 h2 q
theorem sS_notA {Γ : Gm} {f : Hm} {se c sl n : Nat} {en : Nat → Nat} {E : Nat → EV} {cn rm us : Int32} {gs : List Value} (hC : CA Γ f c sl n en E cn rm us) (hs : f se = some (eR 5 gs)) {b : Nat} {x : ClassId × vp_A} (hb : f b = some (.inl x)) : ¬ sS se c n en b := by
  rintro (q | q | ⟨i, hi, q⟩)
  · exact hm_ne hb hs (fun z => by cases z) q
  · exact hm_ne hb hC.1 (fun z => by cases z) q
  · exact hm_ne hb (hC.2.2.1 i hi) (fun z => by cases z) q
/-- a trace: player, board, z, push -/
abbrev TX : Type := Int32 × Int64 × Int32 × Int32
abbrev tx (x : TX) : va_E := eR 6 [.int x.1, .long x.2.1, .int x.2.2.1, .int x.2.2.2]
def herB (x : TX) (b : Int64) (z : Int32) : Bool := decide (x.2.1 = b) && decide (x.2.2.1 = z)
def tdB (xs : Nat → TX) (b : Int64) (z n v : Int32) : Nat → Bool
  | 0 => false
  | k + 1 => tdB xs b z n v k || (herB (xs k) b z && (!decide ((xs k).1 = n) && decide ((xs k).2.2.2 = v)))
def owB (xs : Nat → TX) (b : Int64) (z n : Int32) : Nat → Bool
  | 0 => false
  | k + 1 => owB xs b z n k || (herB (xs k) b z && decide ((xs k).1 = n))
def folB (xs : Nat → TX) (b : Int64) (z n v : Int32) (k : Nat) : Bool := tdB xs b z n v k && !owB xs b z n k
theorem owB_mono {xs : Nat → TX} {b : Int64} {z n : Int32} {i : Nat} (h : owB xs b z n i = true) : ∀ {k : Nat}, i ≤ k → owB xs b z n k = true
  | 0, hk => by have : i = 0 := by omega
                subst this; exact h
  | k + 1, hk => by
    by_cases q : i = k + 1
    · subst q; exact h
    · unfold owB
      rw [owB_mono h (k := k) (by omega)]
      rfl
theorem bI_nar (b : Bool) : narrow .boolean (.int (bI b)) = .int (bI b) := by cases b <;> rfl
set_option maxHeartbeats 4000000 in
set_option maxRecDepth 100000 in
theorem c_isFollowing (Γ : Gm) (l : Launch) (x0 lp lg lt ca tr pl : Nat) (lim : Int32) (rf so sp sh sm : Int64) (ar cap n : Nat) (L : Nat → Nat) (xs : Nat → TX) (ga : Nat) (o : Nat) (pb sc pc0 rw0 lr pd : Int32) (t : Nat → Nat) (z : Nat) (vd : Bool) (n1 m1 m2 v : Int32) (f : Hm) (hx0 : f x0 = some (eR 7 [.ref lp, .ref lg, .ref lt, .ref ca, .ref tr, .ref pl, .int lim, .long rf, .long so, .long sp, .long sh, .long sm])) (hL : LI Γ f lt ar cap n L) (hn : n ≤ 60) (hc : cap < 2 ^ 31) (hT : ∀ i, i < n → f (L i) = some (tx (xs i))) (hg : f ga = some (eR 3 [.ref o, .int pb, .long (b5 t), .int (nI z), .int sc, .int pc0, .int rw0, .int lr, .int pd, .int (bI vd)])) (ho : f o = some (eR 4 [.int n1, .int m1, .int m2])) : Ct Γ l yX7_isFollowing cX7_isFollowing 6 (some .boolean) 4 0 0 [.ref x0, .ref ga, .int v] f (pI (bI (folB xs (b5 t) (nI z) n1 v n)) f) := by
  refine Ct_of (by decide +kernel) (Nat.le_of_ble_eq_true rfl) ?_
  intro p e s m args below meth c hx hb hr hml hown hin hlocks hts hH hO hK ls hl
  have hl : lv_has ls 6 [(0, .ref x0), (1, .ref ga), (2, .int v)] := hl
  have hS : va_S (gA Γ) s.heap s.heap [] := va_S.rf
  obtain ⟨⟨moL, hlL⟩, -⟩ := id hL
  have loop : ∀ (k_ i : Nat), i + k_ = n → owB xs (b5 t) (nI z) n1 i = false → ∀ (H : Heap) (locs : List Loc), hm_H Γ f H → va_S (gA Γ) s.heap H locs → ∀ ls : Array Slot, lv_has ls 6 [(4, .int (nI i)), (3, .int (bI (tdB xs (b5 t) (nI z) n1 v i))), (0, .ref x0), (1, .ref ga), (2, .int v)] → W p l e (rmk 4 0 0) s m args below meth c H locs 0 0 (MQ below (hm_Q Γ (pI (bI (folB xs (b5 t) (nI z) n1 v n)) f)) args s 0 0 (gA Γ)) (F0 m 5 ls []) := by
    intro k_
    induction k_ with
    | zero =>
      intro i hin_ how H locs hH hS ls hl
      have hi : i = n := by omega
      subst hi
      refine lv_iload hx hb dX7_isFollowing_5 (lv_at hl 0 rfl) ?_
      refine lv_aload_n hx hb dX7_isFollowing_7 rfl (lv_at hl 2 rfl) ?_
      refine gf_X7_19 hx hb hts hown hK hH hx0 rfl dX7_isFollowing_8 ?_
      refine hm_callV (rest := [.int (nI i)]) (k := 1) q1_210 q1_211 q1_4 q1_213 q1_212 rfl nm_Jx4a65c_size_8abf5 rfl hx hb hml hown hts hK hO hS hH hl.1 hlL (c_size Γ l lt ar cap i L f hL) ⟨Nat.le_of_ble_eq_true rfl, Nat.le_of_ble_eq_true rfl⟩ ⟨Nat.le_of_ble_eq_true rfl, Nat.le_of_ble_eq_true rfl⟩ rfl (Nat.le_of_ble_eq_true rfl) dX7_isFollowing_11 (fun v_ f_ H locs hp_ hH hS => ?_)
      obtain ⟨rfl, ef_⟩ := hp_
      rw [ef_] at hH
      clear ef_
      refine W.eq (g2 := F0 m 14 ls [.int (nI i), .int (nI i)]) rfl ?_
      refine lv_icmp_ge (tgt := 98) hx hb dX7_isFollowing_14 (by decide) (fun _ => ?_) (fun c1 => absurd (nI_le (Nat.le_refl _) (by omega)) c1)
      refine lv_iload_n hx hb dX7_isFollowing_98 rfl (lv_at hl 1 rfl) ?_
      exact hm_zret hx hb hr (bI_nar _) hlocks hS hH (pI_of (by unfold folB; rw [how]; rw [Bool.not_false, Bool.and_true])) (Nat.le_of_ble_eq_true rfl) (Nat.le_of_ble_eq_true rfl) dX7_isFollowing_99
    | succ k_ ih =>
      intro i hin_ how H locs hH hS ls hl
      have hi : i < n := by omega
      refine lv_iload hx hb dX7_isFollowing_5 (lv_at hl 0 rfl) ?_
      refine lv_aload_n hx hb dX7_isFollowing_7 rfl (lv_at hl 2 rfl) ?_
      refine gf_X7_19 hx hb hts hown hK hH hx0 rfl dX7_isFollowing_8 ?_
      refine hm_callV (rest := [.int (nI i)]) (k := 1) q1_210 q1_211 q1_4 q1_213 q1_212 rfl nm_Jx4a65c_size_8abf5 rfl hx hb hml hown hts hK hO hS hH hl.1 hlL (c_size Γ l lt ar cap n L f hL) ⟨Nat.le_of_ble_eq_true rfl, Nat.le_of_ble_eq_true rfl⟩ ⟨Nat.le_of_ble_eq_true rfl, Nat.le_of_ble_eq_true rfl⟩ rfl (Nat.le_of_ble_eq_true rfl) dX7_isFollowing_11 (fun v_ f_ H locs hp_ hH hS => ?_)
      obtain ⟨rfl, ef_⟩ := hp_
      rw [ef_] at hH
      clear ef_
      refine W.eq (g2 := F0 m 14 ls [.int (nI n), .int (nI i)]) rfl ?_
      refine lv_icmp_ge (tgt := 98) hx hb dX7_isFollowing_14 (by decide) (fun c1 => absurd c1 (nI_ge hi (by omega))) (fun _ => ?_)
      refine lv_aload_n hx hb dX7_isFollowing_17 rfl (lv_at hl 2 rfl) ?_
      refine gf_X7_19 hx hb hts hown hK hH hx0 rfl dX7_isFollowing_18 ?_
      refine lv_iload hx hb dX7_isFollowing_21 (lv_at hl 0 rfl) ?_
      have hTi := hT i hi
      refine hm_callV (rest := []) (k := 3) q2_229 q2_230 q1_4 q2_232 q2_231 rfl nm_Jx4a65c_get_915e3 rfl hx hb hml hown hts hK hO hS hH hl.1 hlL (c_get Γ l lt ar cap n L i f hL hi hc) ⟨Nat.le_of_ble_eq_true rfl, Nat.le_of_ble_eq_true rfl⟩ ⟨Nat.le_of_ble_eq_true rfl, Nat.le_of_ble_eq_true rfl⟩ rfl (Nat.le_of_ble_eq_true rfl) dX7_isFollowing_23 (fun v_ f_ H locs hp_ hH hS => ?_)
      obtain ⟨rfl, ef_⟩ := hp_
      rw [ef_] at hH
      clear ef_
      refine W.eq (g2 := F0 m 26 ls [.ref (L i)]) rfl ?_
      refine hm_castR hx hb hts hown q3_130 hK hH hTi rfl dX7_isFollowing_26 ?_
      refine lv_astore (lv' := [(5, .ref ((L i))), (4, .int (nI i)), (3, .int (bI (tdB xs (b5 t) (nI z) n1 v i))), (0, .ref x0), (1, .ref ga), (2, .int v)]) hx hb dX7_isFollowing_29 hl (by decide) rfl (fun ls hl => ?_)
      refine lv_aload hx hb dX7_isFollowing_31 (lv_at hl 0 rfl) ?_
      refine gf_X7_326 hx hb hts hown hK hH hTi rfl dX7_isFollowing_33 ?_
      refine lv_aload_n hx hb dX7_isFollowing_36 rfl (lv_at hl 4 rfl) ?_
      refine gf_X7_112 hx hb hts hown hK hH hg rfl dX7_isFollowing_37 ?_
      refine W.lcmp hx hb dX7_isFollowing_40 ?_
      refine lv_if_ne (tgt := 92) hx hb dX7_isFollowing_41 (by decide) (fun c3 => ?_) (fun c3 => ?_)
      · refine lv_iinc (v := (nI (i + 1))) (lv' := [(4, .int ((nI (i + 1)))), (5, .ref ((L i))), (3, .int (bI (tdB xs (b5 t) (nI z) n1 v i))), (0, .ref x0), (1, .ref ga), (2, .int v)]) hx hb dX7_isFollowing_92 hl (k := 1) rfl (nI_1 i) (by decide) rfl (fun ls hl => ?_)
        refine lv_goto (tgt := 5) hx hb dX7_isFollowing_95 (by decide) ?_
        have hh : herB (xs i) (b5 t) (nI z) = false := by unfold herB; rw [decide_eq_false (fun q => c3 (m_cmp.mpr q))]; rfl
        have htd : tdB xs (b5 t) (nI z) n1 v (i + 1) = (tdB xs (b5 t) (nI z) n1 v i) := by show (tdB xs (b5 t) (nI z) n1 v i || (_ && _)) = _; rw [hh, Bool.false_and, Bool.or_false]
        have how2 : owB xs (b5 t) (nI z) n1 (i + 1) = false := by show (owB xs (b5 t) (nI z) n1 i || (_ && _)) = false; rw [hh, Bool.false_and, Bool.or_false]; exact how
        refine ih (i + 1) (by omega) how2 H locs hH hS ls ?_
        rw [htd]
        exact lv_sub hl [0, 2, 3, 4, 5] rfl
      · refine lv_aload hx hb dX7_isFollowing_44 (lv_at hl 0 rfl) ?_
        refine gf_X7_327 hx hb hts hown hK hH hTi rfl dX7_isFollowing_46 ?_
        refine lv_aload_n hx hb dX7_isFollowing_49 rfl (lv_at hl 4 rfl) ?_
        refine gf_X7_188 hx hb hts hown hK hH hg rfl dX7_isFollowing_50 ?_
        refine lv_icmp_ne (tgt := 92) hx hb dX7_isFollowing_53 (by decide) (fun c4 => ?_) (fun c4 => ?_)
        · refine lv_iinc (v := (nI (i + 1))) (lv' := [(4, .int ((nI (i + 1)))), (5, .ref ((L i))), (3, .int (bI (tdB xs (b5 t) (nI z) n1 v i))), (0, .ref x0), (1, .ref ga), (2, .int v)]) hx hb dX7_isFollowing_92 hl (k := 1) rfl (nI_1 i) (by decide) rfl (fun ls hl => ?_)
          refine lv_goto (tgt := 5) hx hb dX7_isFollowing_95 (by decide) ?_
          have hh : herB (xs i) (b5 t) (nI z) = false := by unfold herB; rw [decide_eq_false c4, Bool.and_false]
          have htd : tdB xs (b5 t) (nI z) n1 v (i + 1) = (tdB xs (b5 t) (nI z) n1 v i) := by show (tdB xs (b5 t) (nI z) n1 v i || (_ && _)) = _; rw [hh, Bool.false_and, Bool.or_false]
          have how2 : owB xs (b5 t) (nI z) n1 (i + 1) = false := by show (owB xs (b5 t) (nI z) n1 i || (_ && _)) = false; rw [hh, Bool.false_and, Bool.or_false]; exact how
          refine ih (i + 1) (by omega) how2 H locs hH hS ls ?_
          rw [htd]
          exact lv_sub hl [0, 2, 3, 4, 5] rfl
        · refine lv_aload hx hb dX7_isFollowing_56 (lv_at hl 0 rfl) ?_
          refine gf_X7_244 hx hb hts hown hK hH hTi rfl dX7_isFollowing_58 ?_
          refine lv_aload_n hx hb dX7_isFollowing_61 rfl (lv_at hl 4 rfl) ?_
          refine gf_X7_168 hx hb hts hown hK hH hg rfl dX7_isFollowing_62 ?_
          refine gf_X7_328 hx hb hts hown hK hH ho rfl dX7_isFollowing_65 ?_
          refine lv_icmp_ne (tgt := 73) hx hb dX7_isFollowing_68 (by decide) (fun c5 => ?_) (fun c5 => ?_)
          · refine lv_iload_n hx hb dX7_isFollowing_73 rfl (lv_at hl 2 rfl) ?_
            refine lv_if_ne (tgt := 86) hx hb dX7_isFollowing_74 (by decide) (fun c6 => ?_) (fun c6 => ?_)
            · refine lv_iconst (v := 1) hx hb dX7_isFollowing_86 (by decide) ?_
              refine lv_goto (tgt := 91) hx hb dX7_isFollowing_87 (by decide) ?_
              refine lv_istore_n (lv' := [(3, .int 1), (5, .ref ((L i))), (4, .int (nI i)), (0, .ref x0), (1, .ref ga), (2, .int v)]) hx hb dX7_isFollowing_91 rfl hl (by decide) rfl (fun ls hl => ?_)
              refine lv_iinc (v := (nI (i + 1))) (lv' := [(4, .int ((nI (i + 1)))), (3, .int 1), (5, .ref ((L i))), (0, .ref x0), (1, .ref ga), (2, .int v)]) hx hb dX7_isFollowing_92 hl (k := 2) rfl (nI_1 i) (by decide) rfl (fun ls hl => ?_)
              refine lv_goto (tgt := 5) hx hb dX7_isFollowing_95 (by decide) ?_
              have hh : herB (xs i) (b5 t) (nI z) = true := by unfold herB; rw [decide_eq_true (m_cmp.mp c3), decide_eq_true c4]; rfl
              have htd : tdB xs (b5 t) (nI z) n1 v (i + 1) = (true) := by show (tdB xs (b5 t) (nI z) n1 v i || (_ && _)) = true; rw [bI_n.mp c6]; exact Bool.true_or _
              have how2 : owB xs (b5 t) (nI z) n1 (i + 1) = false := by show (owB xs (b5 t) (nI z) n1 i || (_ && _)) = false; rw [hh, decide_eq_false c5, Bool.and_false, Bool.or_false]; exact how
              refine ih (i + 1) (by omega) how2 H locs hH hS ls ?_
              rw [htd]
              exact lv_sub hl [0, 1, 3, 4, 5] rfl
            · refine lv_aload hx hb dX7_isFollowing_77 (lv_at hl 0 rfl) ?_
              refine gf_X7_249 hx hb hts hown hK hH hTi rfl dX7_isFollowing_79 ?_
              refine lv_iload_n hx hb dX7_isFollowing_82 rfl (lv_at hl 5 rfl) ?_
              refine lv_icmp_ne (tgt := 90) hx hb dX7_isFollowing_83 (by decide) (fun c7 => ?_) (fun c7 => ?_)
              · refine lv_iconst (v := 0) hx hb dX7_isFollowing_90 (by decide) ?_
                refine lv_istore_n (lv' := [(3, .int 0), (5, .ref ((L i))), (4, .int (nI i)), (0, .ref x0), (1, .ref ga), (2, .int v)]) hx hb dX7_isFollowing_91 rfl hl (by decide) rfl (fun ls hl => ?_)
                refine lv_iinc (v := (nI (i + 1))) (lv' := [(4, .int ((nI (i + 1)))), (3, .int 0), (5, .ref ((L i))), (0, .ref x0), (1, .ref ga), (2, .int v)]) hx hb dX7_isFollowing_92 hl (k := 2) rfl (nI_1 i) (by decide) rfl (fun ls hl => ?_)
                refine lv_goto (tgt := 5) hx hb dX7_isFollowing_95 (by decide) ?_
                have hh : herB (xs i) (b5 t) (nI z) = true := by unfold herB; rw [decide_eq_true (m_cmp.mp c3), decide_eq_true c4]; rfl
                have htd : tdB xs (b5 t) (nI z) n1 v (i + 1) = (false) := by show (tdB xs (b5 t) (nI z) n1 v i || (_ && (_ && _))) = false; rw [bI_0.mp c6, decide_eq_false c7, Bool.and_false, Bool.and_false]; rfl
                have how2 : owB xs (b5 t) (nI z) n1 (i + 1) = false := by show (owB xs (b5 t) (nI z) n1 i || (_ && _)) = false; rw [hh, decide_eq_false c5, Bool.and_false, Bool.or_false]; exact how
                refine ih (i + 1) (by omega) how2 H locs hH hS ls ?_
                rw [htd]
                exact lv_sub hl [0, 1, 3, 4, 5] rfl
              · refine lv_iconst (v := 1) hx hb dX7_isFollowing_86 (by decide) ?_
                refine lv_goto (tgt := 91) hx hb dX7_isFollowing_87 (by decide) ?_
                refine lv_istore_n (lv' := [(3, .int 1), (5, .ref ((L i))), (4, .int (nI i)), (0, .ref x0), (1, .ref ga), (2, .int v)]) hx hb dX7_isFollowing_91 rfl hl (by decide) rfl (fun ls hl => ?_)
                refine lv_iinc (v := (nI (i + 1))) (lv' := [(4, .int ((nI (i + 1)))), (3, .int 1), (5, .ref ((L i))), (0, .ref x0), (1, .ref ga), (2, .int v)]) hx hb dX7_isFollowing_92 hl (k := 2) rfl (nI_1 i) (by decide) rfl (fun ls hl => ?_)
                refine lv_goto (tgt := 5) hx hb dX7_isFollowing_95 (by decide) ?_
                have hh : herB (xs i) (b5 t) (nI z) = true := by unfold herB; rw [decide_eq_true (m_cmp.mp c3), decide_eq_true c4]; rfl
                have htd : tdB xs (b5 t) (nI z) n1 v (i + 1) = (true) := by show (tdB xs (b5 t) (nI z) n1 v i || (_ && (_ && _))) = true; rw [hh, decide_eq_false c5, decide_eq_true c7]; exact Bool.or_true _
                have how2 : owB xs (b5 t) (nI z) n1 (i + 1) = false := by show (owB xs (b5 t) (nI z) n1 i || (_ && _)) = false; rw [hh, decide_eq_false c5, Bool.and_false, Bool.or_false]; exact how
                refine ih (i + 1) (by omega) how2 H locs hH hS ls ?_
                rw [htd]
                exact lv_sub hl [0, 1, 3, 4, 5] rfl
          · refine lv_iconst (v := 0) hx hb dX7_isFollowing_71 (by decide) ?_
            exact hm_zret hx hb hr rfl hlocks hS hH (pI_of (by unfold folB; rw [owB_mono (i := i + 1) (by show (owB xs (b5 t) (nI z) n1 i || (_ && _)) = true; unfold herB; rw [decide_eq_true (m_cmp.mp c3), decide_eq_true c4, decide_eq_true c5]; exact Bool.or_true _) (by omega), Bool.not_true, Bool.and_false]; rfl)) (Nat.le_of_ble_eq_true rfl) (Nat.le_of_ble_eq_true rfl) dX7_isFollowing_72
  refine lv_iconst (v := 0) hx hb dX7_isFollowing_0 (by decide) ?_
  refine lv_istore_n (lv' := [(3, .int 0), (0, .ref x0), (1, .ref ga), (2, .int v)]) hx hb dX7_isFollowing_1 rfl hl (by decide) rfl (fun ls hl => ?_)
  refine lv_iconst (v := 0) hx hb dX7_isFollowing_2 (by decide) ?_
  refine lv_istore (lv' := [(4, .int 0), (3, .int 0), (0, .ref x0), (1, .ref ga), (2, .int v)]) hx hb dX7_isFollowing_3 hl (by decide) rfl (fun ls hl => ?_)
  exact loop n 0 (by omega) rfl s.heap [] hH hS ls (lv_sub hl [0, 1, 2, 3, 4] rfl)
set_option maxHeartbeats 4000000 in
set_option maxRecDepth 100000 in
theorem c_tryHint (Γ : Gm) (l : Launch) (x0 lp lg lt ca tr pl : Nat) (lim : Int32) (rf so sp sh sm : Int64) (sl : Nat) (en : Nat → Nat) (E : Nat → EV) (cn rm us : Int32) (ca1 sl1 : Nat) (en1 : Nat → Nat) (E1 : Nat → EV) (cn1 rm1 us1 u1 u2 u3 : Int32) (ga : Nat) (o : Nat) (pb sc pc0 rw0 lr pd : Int32) (t : Nat → Nat) (z : Nat) (vd : Bool) (d : Nat) (f : Hm) (hx0 : f x0 = some (eR 7 [.ref lp, .ref lg, .ref lt, .ref ca, .ref tr, .ref pl, .int lim, .long rf, .long so, .long sp, .long sh, .long sm])) (hC : CA Γ f ca sl 64 en E cn rm us) (hC1 : CA Γ f ca1 sl1 64 en1 E1 cn1 rm1 us1) (htr : f tr = some (eR 5 [.ref ca1, .int u1, .int u2, .int u3])) (hcc : ca ≠ ca1) (hdis : ∀ i j, i < 64 → j < 64 → en j ≠ en1 i) (hok : ∀ j, j < 64 → eok (E j)) (hg : f ga = some (eR 3 [.ref o, .int pb, .long (b5 t), .int (nI z), .int sc, .int pc0, .int rw0, .int lr, .int pd, .int (bI vd)])) (hd : 1 ≤ d) (hd4 : d ≤ 4) (hz : z < 2 ^ 31) (hw : wt t + 4 * d ≤ 4000) : Ct Γ l yX7_tryHint cX7_tryHint 3 (none : Option Jvm.ClassFile.FieldType) 13 0 0 [.ref x0, .ref ga, .int (nI d)] f (fun v f' => v = none ∧ CA Γ f' ca1 sl1 64 en1 (trS 64 rm d t z (E, cn, us, 0, 0)).1 (trS 64 rm d t z (E, cn, us, 0, 0)).2.1 rm (trS 64 rm d t z (E, cn, us, 0, 0)).2.2.1 ∧ f' tr = some (eR 5 [.ref ca1, .int (trS 64 rm d t z (E, cn, us, 0, 0)).2.2.2.1, .int (trS 64 rm d t z (E, cn, us, 0, 0)).2.2.2.2, .int (wp d t z).2]) ∧ (∀ j, j < 64 → eok ((trS 64 rm d t z (E, cn, us, 0, 0)).1 j)) ∧ hm_fr (sS tr ca1 64 en1) f f') := by
  refine Ct_of (by decide +kernel) (Nat.le_of_ble_eq_true rfl) ?_
  intro p e s m args below meth c hx hb hr hml hown hin hlocks hts hH hO hK ls hl
  have hl : lv_has ls 3 [(0, .ref x0), (1, .ref ga), (2, .int (nI d))] := hl
  have hS : va_S (gA Γ) s.heap s.heap [] := va_S.rf
  refine lv_aload_n hx hb dX7_tryHint_0 rfl (lv_at hl 0 rfl) ?_
  refine gf_X7_36 hx hb hts hown hK hH hx0 rfl dX7_tryHint_1 ?_
  refine gf_X7_286 hx hb hts hown hK hH htr rfl dX7_tryHint_4 ?_
  refine lv_aload_n hx hb dX7_tryHint_7 rfl (lv_at hl 0 rfl) ?_
  refine gf_X7_27 hx hb hts hown hK hH hx0 rfl dX7_tryHint_8 ?_
  obtain ⟨hca1_, -⟩ := id hC1
  refine hm_callV (rest := []) (k := 2) q3_168 q3_169 q1_5 q3_171 q3_170 rfl nm_X1_become rfl hx hb hml hown hts hK hO hS hH hl.1 hca1_ (c_X1_become Γ l ca1 sl1 64 en1 E1 cn1 rm1 us1 ca sl en E cn rm us f hC1 (by decide) hC hcc hdis) ⟨Nat.le_of_ble_eq_true rfl, Nat.le_of_ble_eq_true rfl⟩ ⟨Nat.le_of_ble_eq_true rfl, Nat.le_of_ble_eq_true rfl⟩ rfl (Nat.le_of_ble_eq_true rfl) dX7_tryHint_11 (fun v_ f_ H locs hp_ hH hS => ?_)
  obtain ⟨rfl, hCb, hfr1⟩ := hp_
  refine W.eq (g2 := F0 m 14 ls []) rfl ?_
  have h1 : f_ x0 = some (eR 7 [.ref lp, .ref lg, .ref lt, .ref ca, .ref tr, .ref pl, .int lim, .long rf, .long so, .long sp, .long sh, .long sm]) := (hfr1 _ (cS_not hC1 hx0 (by decide) (by decide))).trans hx0
  have h2 : f_ tr = some (eR 5 [.ref ca1, .int u1, .int u2, .int u3]) := (hfr1 _ (cS_not hC1 htr (by decide) (by decide))).trans htr
  have h3 : f_ ga = some (eR 3 [.ref o, .int pb, .long (b5 t), .int (nI z), .int sc, .int pc0, .int rw0, .int lr, .int pd, .int (bI vd)]) := (hfr1 _ (cS_not hC1 hg (by decide) (by decide))).trans hg
  refine lv_aload_n hx hb dX7_tryHint_14 rfl (lv_at hl 0 rfl) ?_
  refine gf_X7_36 hx hb hts hown hK hH h1 rfl dX7_tryHint_15 ?_
  refine hm_callV (rest := []) (k := 1) q3_176 q3_177 q1_8 q3_179 q3_178 rfl nm_X5_start rfl hx hb hml hown hts hK hO hS hH hl.1 h2 (c_X5_start Γ l tr ca1 u1 u2 u3 f_ h2) ⟨Nat.le_of_ble_eq_true rfl, Nat.le_of_ble_eq_true rfl⟩ ⟨Nat.le_of_ble_eq_true rfl, Nat.le_of_ble_eq_true rfl⟩ rfl (Nat.le_of_ble_eq_true rfl) dX7_tryHint_18 (fun v2_ f2_ H locs hp_ hH hS => ?_)
  obtain ⟨rfl, ef2_⟩ := hp_
  refine W.eq (g2 := F0 m 21 ls []) rfl ?_
  have h4 : f2_ x0 = some (eR 7 [.ref lp, .ref lg, .ref lt, .ref ca, .ref tr, .ref pl, .int lim, .long rf, .long so, .long sp, .long sh, .long sm]) := by rw [ef2_]; exact (hm_un (hm_ne h1 h2 (fun q => by injection q with q; injection q with q; cases q))).trans h1
  have h5 : f2_ ga = some (eR 3 [.ref o, .int pb, .long (b5 t), .int (nI z), .int sc, .int pc0, .int rw0, .int lr, .int pd, .int (bI vd)]) := by rw [ef2_]; exact (hm_un (hm_ne h3 h2 (fun q => by injection q with q; injection q with q; cases q))).trans h3
  have htr2 : f2_ tr = some (eR 5 [.ref ca1, .int 0, .int 0, .int (-1)]) := by rw [ef2_]; exact hm_us
  have hC2 : CA Γ f2_ ca1 sl1 64 en1 E cn rm us := by rw [ef2_]; exact hCb.kept (S := fun q => q = tr) (hm_fr.rf.up rfl) (hm_ne hCb.1 h2 (fun q => by injection q with q; injection q with q; cases q)) (by obtain ⟨g_, hg_, -⟩ := hCb.2.1; exact hm_ne hg_ h2 (fun q => by cases q)) (fun i hi => hm_ne (hCb.2.2.1 i hi) h2 (fun q => by injection q with q; injection q with q; cases q))
  have hfr2 : hm_fr (sS tr ca1 64 en1) f f2_ := by rw [ef2_]; exact (hfr1.mono (fun q hq => Or.inr hq)).up (Or.inl rfl)
  refine lv_aload_n hx hb dX7_tryHint_21 rfl (lv_at hl 0 rfl) ?_
  refine gf_X7_36 hx hb hts hown hK hH h4 rfl dX7_tryHint_22 ?_
  refine lv_aload_n hx hb dX7_tryHint_25 rfl (lv_at hl 1 rfl) ?_
  refine gf_X7_112 hx hb hts hown hK hH h5 rfl dX7_tryHint_26 ?_
  refine lv_aload_n hx hb dX7_tryHint_29 rfl (lv_at hl 1 rfl) ?_
  refine gf_X7_188 hx hb hts hown hK hH h5 rfl dX7_tryHint_30 ?_
  refine lv_iload_n hx hb dX7_tryHint_33 rfl (lv_at hl 2 rfl) ?_
  refine hm_callS (rest := []) (k := 8 + d) q3_180 q3_181 q1_1 q3_182 nm_X7_look rfl hx hb hml hown hts hK hO hS hH hl.1 (c_X7_look Γ l 64 ca1 sl1 tr en1 rm (by decide) d hd4 t z (E, cn, us, 0, 0) (-1) f2_ hz hw hC2 htr2 hok) ⟨by show 10 * (8 + d) + 1 ≤ 130; omega, by show 8 + (13 + 11) + 200 * (8 + d) ≤ 2600; omega⟩ ⟨Nat.le_of_ble_eq_true rfl, Nat.le_of_ble_eq_true rfl⟩ rfl (Nat.le_of_ble_eq_true rfl) dX7_tryHint_34 (fun v3_ f3_ H locs hp_ hH hS => ?_)
  obtain ⟨rfl, hC3, ⟨p3, htr3, hp3⟩, hok3, hfr3⟩ := hp_
  refine W.eq (g2 := F0 m 37 ls [.int (nI (wp d t z).1)]) rfl ?_
  rw [hp3 (by omega)] at htr3
  refine lv_pop hx hb dX7_tryHint_37 rfl ?_
  exact hm_vret hx hb hr hlocks hS hH (⟨rfl, hC3, htr3, hok3, hfr2.tr hfr3⟩) (Nat.le_of_ble_eq_true rfl) (Nat.le_of_ble_eq_true rfl) dX7_tryHint_38
