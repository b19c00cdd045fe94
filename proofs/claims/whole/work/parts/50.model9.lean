/-! the model: does a push follow a hint -/
theorem bI_or (a b : Bool) : bI a ||| bI b = bI (a || b) := by cases a <;> cases b <;> decide
abbrev txs (tp : Nat → Int32) (tb : Nat → Int64) (tz tu : Nat → Int32) : Nat → TX := fun j => (tp j, tb j, tz j, tu j)
set_option maxHeartbeats 4000000 in
set_option maxRecDepth 100000 in
theorem c_X8_led (Γ : Gm) (l : Launch) (m0 : Nat) (r : Nat → Nat) (mth mpl mga mke mro mck mli mdz mgd mhi mmi mfh msh msm mso : Int32) (msp mrf : Int64) (nt : Nat) (tb : Nat → Int64) (tz tp tu : Nat → Int32) (b : Int64) (z n1 v : Int32) (f : Hm) (hm0 : f m0 = some (eM r mth mpl mga ((nI nt)) mke mro mck mli mdz mgd mhi mmi mfh msh msm mso msp mrf)) (hnt : nt ≤ 60) (ht0 : f (r 10) = some (eJ Γ 60 tb)) (ht1 : f (r 11) = some (eI Γ 60 tz)) (ht2 : f (r 12) = some (eI Γ 60 tp)) (ht3 : f (r 13) = some (eI Γ 60 tu)) : Ct Γ l yX8_led cX8_led 10 (some .boolean) 1 0 0 [.ref m0, .long b, .int z, .int n1, .int v] f (pI (bI (folB (txs tp tb tz tu) b z n1 v nt)) f) := by
  refine Ct_of (by decide +kernel) (Nat.le_of_ble_eq_true rfl) ?_
  intro p e s m args below meth c hx hb hr hml hown hin hlocks hts hH hO hK ls hl
  have hl : lv_has ls 10 [(0, .ref m0), (1, .long b), (3, .int z), (4, .int n1), (5, .int v)] := hl
  have hS : va_S (gA Γ) s.heap s.heap [] := va_S.rf
  have loop : ∀ (k_ i : Nat), i + k_ = nt → ∀ (H : Heap) (locs : List Loc), hm_H Γ f H → va_S (gA Γ) s.heap H locs → ∀ ls : Array Slot, lv_has ls 10 [(8, .int (nI i)), (7, .int (bI (owB (txs tp tb tz tu) b z n1 i))), (6, .int (bI (tdB (txs tp tb tz tu) b z n1 v i))), (0, .ref m0), (1, .long b), (3, .int z), (4, .int n1), (5, .int v)] → W p l e (rmk 1 0 0) s m args below meth c H locs 0 0 (MQ below (hm_Q Γ (pI (bI (folB (txs tp tb tz tu) b z n1 v nt)) f)) args s 0 0 (gA Γ)) (F0 m 9 ls []) := by
    intro k_
    induction k_ with
      | zero =>
        intro i hin_ H locs hH hS ls hl
        have hi : i = nt := by omega
        subst hi
        refine lv_iload hx hb dX8_led_9 (lv_at hl 0 rfl) ?_
        refine lv_aload_n hx hb dX8_led_11 rfl (lv_at hl 3 rfl) ?_
        refine gf_X8_162 hx hb hts hown hK hH hm0 rfl dX8_led_12 ?_
        refine lv_icmp_ge (tgt := 120) hx hb dX8_led_15 (by decide) (fun _ => ?_) (fun c1 => absurd (nI_le (Nat.le_refl _) (by omega)) c1)
        refine lv_iload hx hb dX8_led_120 (lv_at hl 2 rfl) ?_
        refine lv_if_eq (tgt := 134) hx hb dX8_led_122 (by decide) (fun c2 => ?_) (fun c2 => ?_)
        · refine lv_iconst (v := 0) hx hb dX8_led_134 (by decide) ?_
          exact hm_zret hx hb hr rfl hlocks hS hH (pI_of (by unfold folB; rw [bI_0.mp c2]; rfl)) (Nat.le_of_ble_eq_true rfl) (Nat.le_of_ble_eq_true rfl) dX8_led_135
        · refine lv_iload hx hb dX8_led_125 (lv_at hl 1 rfl) ?_
          refine lv_if_ne (tgt := 134) hx hb dX8_led_127 (by decide) (fun c3 => ?_) (fun c3 => ?_)
          · refine lv_iconst (v := 0) hx hb dX8_led_134 (by decide) ?_
            exact hm_zret hx hb hr rfl hlocks hS hH (pI_of (by unfold folB; rw [bI_n.mp c3, Bool.not_true, Bool.and_false]; rfl)) (Nat.le_of_ble_eq_true rfl) (Nat.le_of_ble_eq_true rfl) dX8_led_135
          · refine lv_iconst (v := 1) hx hb dX8_led_130 (by decide) ?_
            refine lv_goto (tgt := 135) hx hb dX8_led_131 (by decide) ?_
            exact hm_zret hx hb hr rfl hlocks hS hH (pI_of (by unfold folB; rw [bI_n.mp c2, bI_0.mp c3]; rfl)) (Nat.le_of_ble_eq_true rfl) (Nat.le_of_ble_eq_true rfl) dX8_led_135
      | succ k_ ih =>
        intro i hin_ H locs hH hS ls hl
        have hi : i < nt := by omega
        refine lv_iload hx hb dX8_led_9 (lv_at hl 0 rfl) ?_
        refine lv_aload_n hx hb dX8_led_11 rfl (lv_at hl 3 rfl) ?_
        refine gf_X8_162 hx hb hts hown hK hH hm0 rfl dX8_led_12 ?_
        refine lv_icmp_ge (tgt := 120) hx hb dX8_led_15 (by decide) (fun c1 => absurd c1 (nI_ge hi (by omega))) (fun _ => ?_)
        refine lv_aload_n hx hb dX8_led_18 rfl (lv_at hl 3 rfl) ?_
        refine gf_X8_42 hx hb hts hown hK hH hm0 rfl dX8_led_19 ?_
        refine lv_iload hx hb dX8_led_22 (lv_at hl 0 rfl) ?_
        refine hm_lald hx hb hK hH ht0 (vp_in_nI (show i < 60 by omega) (by decide)) dX8_led_24 ?_
        refine lv_topl (fun v2 ev2 => ?_)
        replace ev2 : v2 = (tb i) := ev2.trans (by show tb (nI i).toNatClampNeg = _; rw [nI_clamp (by omega)])
        subst ev2
        refine lv_lload_n hx hb dX8_led_25 rfl (lv_at hl 4 rfl) ?_
        refine W.lcmp hx hb dX8_led_26 ?_
        refine lv_if_ne (tgt := 45) hx hb dX8_led_27 (by decide) (fun c4 => ?_) (fun c4 => ?_)
        · refine lv_iconst (v := 0) hx hb dX8_led_45 (by decide) ?_
          refine lv_istore (lv' := [(9, .int 0), (8, .int (nI i)), (7, .int (bI (owB (txs tp tb tz tu) b z n1 i))), (6, .int (bI (tdB (txs tp tb tz tu) b z n1 v i))), (0, .ref m0), (1, .long b), (3, .int z), (4, .int n1), (5, .int v)]) hx hb dX8_led_46 hl (by decide) rfl (fun ls hl => ?_)
          refine lv_iload hx hb dX8_led_48 (lv_at hl 3 rfl) ?_
          refine lv_iload hx hb dX8_led_50 (lv_at hl 0 rfl) ?_
          refine lv_if_eq (tgt := 83) hx hb dX8_led_52 (by decide) (fun _ => ?_) (fun c5 => absurd (by decide) c5)
          refine lv_iconst (v := 0) hx hb dX8_led_83 (by decide) ?_
          refine lv_ior hx hb dX8_led_84 ?_
          refine lv_topi (fun v6 ev6 => ?_)
          replace ev6 : v6 = bI (tdB (txs tp tb tz tu) b z n1 v i || false) := ev6.trans (bI_or _ false)
          subst ev6
          refine lv_istore (lv' := [(6, .int (bI (tdB (txs tp tb tz tu) b z n1 v i || false))), (9, .int 0), (8, .int (nI i)), (7, .int (bI (owB (txs tp tb tz tu) b z n1 i))), (0, .ref m0), (1, .long b), (3, .int z), (4, .int n1), (5, .int v)]) hx hb dX8_led_85 hl (by decide) rfl (fun ls hl => ?_)
          refine lv_iload hx hb dX8_led_87 (lv_at hl 3 rfl) ?_
          refine lv_iload hx hb dX8_led_89 (lv_at hl 1 rfl) ?_
          refine lv_if_eq (tgt := 110) hx hb dX8_led_91 (by decide) (fun _ => ?_) (fun c7 => absurd (by decide) c7)
          refine lv_iconst (v := 0) hx hb dX8_led_110 (by decide) ?_
          refine lv_ior hx hb dX8_led_111 ?_
          refine lv_topi (fun v8 ev8 => ?_)
          replace ev8 : v8 = bI (owB (txs tp tb tz tu) b z n1 i || false) := ev8.trans (bI_or _ false)
          subst ev8
          refine lv_istore (lv' := [(7, .int (bI (owB (txs tp tb tz tu) b z n1 i || false))), (6, .int (bI (tdB (txs tp tb tz tu) b z n1 v i || false))), (9, .int 0), (8, .int (nI i)), (0, .ref m0), (1, .long b), (3, .int z), (4, .int n1), (5, .int v)]) hx hb dX8_led_112 hl (by decide) rfl (fun ls hl => ?_)
          refine lv_iinc (v := (nI (i + 1))) (lv' := [(8, .int ((nI (i + 1)))), (7, .int (bI (owB (txs tp tb tz tu) b z n1 i || false))), (6, .int (bI (tdB (txs tp tb tz tu) b z n1 v i || false))), (9, .int 0), (0, .ref m0), (1, .long b), (3, .int z), (4, .int n1), (5, .int v)]) hx hb dX8_led_114 hl (k := 3) rfl (nI_1 i) (by decide) rfl (fun ls hl => ?_)
          refine lv_goto (tgt := 9) hx hb dX8_led_117 (by decide) ?_
          have hh : herB ((txs tp tb tz tu) i) b z = false := by unfold herB; rw [decide_eq_false (fun q => c4 (m_cmp.mpr q))]; rfl
          have htd : tdB (txs tp tb tz tu) b z n1 v (i + 1) = (tdB (txs tp tb tz tu) b z n1 v i || false) := by show (_ || (_ && _)) = _; rw [hh, Bool.false_and]
          have how : owB (txs tp tb tz tu) b z n1 (i + 1) = (owB (txs tp tb tz tu) b z n1 i || false) := by show (_ || (_ && _)) = _; rw [hh, Bool.false_and]
          refine ih (i + 1) (by omega) H locs hH hS ls ?_
          rw [htd, how]
          exact lv_sub hl [0, 1, 2, 4, 5, 6, 7, 8] rfl
        · refine lv_aload_n hx hb dX8_led_30 rfl (lv_at hl 3 rfl) ?_
          refine gf_X8_45 hx hb hts hown hK hH hm0 rfl dX8_led_31 ?_
          refine lv_iload hx hb dX8_led_34 (lv_at hl 0 rfl) ?_
          refine hm_iald hx hb hK hH ht1 (vp_in_nI (show i < 60 by omega) (by decide)) dX8_led_36 ?_
          refine lv_topi (fun v9 ev9 => ?_)
          replace ev9 : v9 = (tz i) := ev9.trans (by show tz (nI i).toNatClampNeg = _; rw [nI_clamp (by omega)])
          subst ev9
          refine lv_iload_n hx hb dX8_led_37 rfl (lv_at hl 5 rfl) ?_
          refine lv_icmp_ne (tgt := 45) hx hb dX8_led_38 (by decide) (fun c10 => ?_) (fun c10 => ?_)
          · refine lv_iconst (v := 0) hx hb dX8_led_45 (by decide) ?_
            refine lv_istore (lv' := [(9, .int 0), (8, .int (nI i)), (7, .int (bI (owB (txs tp tb tz tu) b z n1 i))), (6, .int (bI (tdB (txs tp tb tz tu) b z n1 v i))), (0, .ref m0), (1, .long b), (3, .int z), (4, .int n1), (5, .int v)]) hx hb dX8_led_46 hl (by decide) rfl (fun ls hl => ?_)
            refine lv_iload hx hb dX8_led_48 (lv_at hl 3 rfl) ?_
            refine lv_iload hx hb dX8_led_50 (lv_at hl 0 rfl) ?_
            refine lv_if_eq (tgt := 83) hx hb dX8_led_52 (by decide) (fun _ => ?_) (fun c11 => absurd (by decide) c11)
            refine lv_iconst (v := 0) hx hb dX8_led_83 (by decide) ?_
            refine lv_ior hx hb dX8_led_84 ?_
            refine lv_topi (fun v12 ev12 => ?_)
            replace ev12 : v12 = bI (tdB (txs tp tb tz tu) b z n1 v i || false) := ev12.trans (bI_or _ false)
            subst ev12
            refine lv_istore (lv' := [(6, .int (bI (tdB (txs tp tb tz tu) b z n1 v i || false))), (9, .int 0), (8, .int (nI i)), (7, .int (bI (owB (txs tp tb tz tu) b z n1 i))), (0, .ref m0), (1, .long b), (3, .int z), (4, .int n1), (5, .int v)]) hx hb dX8_led_85 hl (by decide) rfl (fun ls hl => ?_)
            refine lv_iload hx hb dX8_led_87 (lv_at hl 3 rfl) ?_
            refine lv_iload hx hb dX8_led_89 (lv_at hl 1 rfl) ?_
            refine lv_if_eq (tgt := 110) hx hb dX8_led_91 (by decide) (fun _ => ?_) (fun c13 => absurd (by decide) c13)
            refine lv_iconst (v := 0) hx hb dX8_led_110 (by decide) ?_
            refine lv_ior hx hb dX8_led_111 ?_
            refine lv_topi (fun v14 ev14 => ?_)
            replace ev14 : v14 = bI (owB (txs tp tb tz tu) b z n1 i || false) := ev14.trans (bI_or _ false)
            subst ev14
            refine lv_istore (lv' := [(7, .int (bI (owB (txs tp tb tz tu) b z n1 i || false))), (6, .int (bI (tdB (txs tp tb tz tu) b z n1 v i || false))), (9, .int 0), (8, .int (nI i)), (0, .ref m0), (1, .long b), (3, .int z), (4, .int n1), (5, .int v)]) hx hb dX8_led_112 hl (by decide) rfl (fun ls hl => ?_)
            refine lv_iinc (v := (nI (i + 1))) (lv' := [(8, .int ((nI (i + 1)))), (7, .int (bI (owB (txs tp tb tz tu) b z n1 i || false))), (6, .int (bI (tdB (txs tp tb tz tu) b z n1 v i || false))), (9, .int 0), (0, .ref m0), (1, .long b), (3, .int z), (4, .int n1), (5, .int v)]) hx hb dX8_led_114 hl (k := 3) rfl (nI_1 i) (by decide) rfl (fun ls hl => ?_)
            refine lv_goto (tgt := 9) hx hb dX8_led_117 (by decide) ?_
            have hh : herB ((txs tp tb tz tu) i) b z = false := by unfold herB; rw [decide_eq_false (p := tz i = z) c10, Bool.and_false]
            have htd : tdB (txs tp tb tz tu) b z n1 v (i + 1) = (tdB (txs tp tb tz tu) b z n1 v i || false) := by show (_ || (_ && _)) = _; rw [hh, Bool.false_and]
            have how : owB (txs tp tb tz tu) b z n1 (i + 1) = (owB (txs tp tb tz tu) b z n1 i || false) := by show (_ || (_ && _)) = _; rw [hh, Bool.false_and]
            refine ih (i + 1) (by omega) H locs hH hS ls ?_
            rw [htd, how]
            exact lv_sub hl [0, 1, 2, 4, 5, 6, 7, 8] rfl
          · refine lv_iconst (v := 1) hx hb dX8_led_41 (by decide) ?_
            refine lv_goto (tgt := 46) hx hb dX8_led_42 (by decide) ?_
            refine lv_istore (lv' := [(9, .int 1), (8, .int (nI i)), (7, .int (bI (owB (txs tp tb tz tu) b z n1 i))), (6, .int (bI (tdB (txs tp tb tz tu) b z n1 v i))), (0, .ref m0), (1, .long b), (3, .int z), (4, .int n1), (5, .int v)]) hx hb dX8_led_46 hl (by decide) rfl (fun ls hl => ?_)
            refine lv_iload hx hb dX8_led_48 (lv_at hl 3 rfl) ?_
            refine lv_iload hx hb dX8_led_50 (lv_at hl 0 rfl) ?_
            refine lv_if_eq (tgt := 83) hx hb dX8_led_52 (by decide) (fun c15 => absurd c15 (by decide)) (fun _ => ?_)
            refine lv_aload_n hx hb dX8_led_55 rfl (lv_at hl 4 rfl) ?_
            refine gf_X8_48 hx hb hts hown hK hH hm0 rfl dX8_led_56 ?_
            refine lv_iload hx hb dX8_led_59 (lv_at hl 1 rfl) ?_
            refine hm_iald hx hb hK hH ht2 (vp_in_nI (show i < 60 by omega) (by decide)) dX8_led_61 ?_
            refine lv_topi (fun v16 ev16 => ?_)
            replace ev16 : v16 = (tp i) := ev16.trans (by show tp (nI i).toNatClampNeg = _; rw [nI_clamp (by omega)])
            subst ev16
            refine lv_iload hx hb dX8_led_62 (lv_at hl 7 rfl) ?_
            refine lv_icmp_eq (tgt := 83) hx hb dX8_led_64 (by decide) (fun c17 => ?_) (fun c17 => ?_)
            · refine lv_iconst (v := 0) hx hb dX8_led_83 (by decide) ?_
              refine lv_ior hx hb dX8_led_84 ?_
              refine lv_topi (fun v18 ev18 => ?_)
              replace ev18 : v18 = bI (tdB (txs tp tb tz tu) b z n1 v i || false) := ev18.trans (bI_or _ false)
              subst ev18
              refine lv_istore (lv' := [(6, .int (bI (tdB (txs tp tb tz tu) b z n1 v i || false))), (9, .int 1), (8, .int (nI i)), (7, .int (bI (owB (txs tp tb tz tu) b z n1 i))), (0, .ref m0), (1, .long b), (3, .int z), (4, .int n1), (5, .int v)]) hx hb dX8_led_85 hl (by decide) rfl (fun ls hl => ?_)
              refine lv_iload hx hb dX8_led_87 (lv_at hl 3 rfl) ?_
              refine lv_iload hx hb dX8_led_89 (lv_at hl 1 rfl) ?_
              refine lv_if_eq (tgt := 110) hx hb dX8_led_91 (by decide) (fun c19 => absurd c19 (by decide)) (fun _ => ?_)
              refine lv_aload_n hx hb dX8_led_94 rfl (lv_at hl 4 rfl) ?_
              refine gf_X8_48 hx hb hts hown hK hH hm0 rfl dX8_led_95 ?_
              refine lv_iload hx hb dX8_led_98 (lv_at hl 2 rfl) ?_
              refine hm_iald hx hb hK hH ht2 (vp_in_nI (show i < 60 by omega) (by decide)) dX8_led_100 ?_
              refine lv_topi (fun v20 ev20 => ?_)
              replace ev20 : v20 = (tp i) := ev20.trans (by show tp (nI i).toNatClampNeg = _; rw [nI_clamp (by omega)])
              subst ev20
              refine lv_iload hx hb dX8_led_101 (lv_at hl 7 rfl) ?_
              refine lv_icmp_ne (tgt := 110) hx hb dX8_led_103 (by decide) (fun c21 => absurd (c17) c21) (fun _ => ?_)
              refine lv_iconst (v := 1) hx hb dX8_led_106 (by decide) ?_
              refine lv_goto (tgt := 111) hx hb dX8_led_107 (by decide) ?_
              refine lv_ior hx hb dX8_led_111 ?_
              refine lv_topi (fun v22 ev22 => ?_)
              replace ev22 : v22 = bI (owB (txs tp tb tz tu) b z n1 i || true) := ev22.trans (bI_or _ true)
              subst ev22
              refine lv_istore (lv' := [(7, .int (bI (owB (txs tp tb tz tu) b z n1 i || true))), (6, .int (bI (tdB (txs tp tb tz tu) b z n1 v i || false))), (9, .int 1), (8, .int (nI i)), (0, .ref m0), (1, .long b), (3, .int z), (4, .int n1), (5, .int v)]) hx hb dX8_led_112 hl (by decide) rfl (fun ls hl => ?_)
              refine lv_iinc (v := (nI (i + 1))) (lv' := [(8, .int ((nI (i + 1)))), (7, .int (bI (owB (txs tp tb tz tu) b z n1 i || true))), (6, .int (bI (tdB (txs tp tb tz tu) b z n1 v i || false))), (9, .int 1), (0, .ref m0), (1, .long b), (3, .int z), (4, .int n1), (5, .int v)]) hx hb dX8_led_114 hl (k := 3) rfl (nI_1 i) (by decide) rfl (fun ls hl => ?_)
              refine lv_goto (tgt := 9) hx hb dX8_led_117 (by decide) ?_
              have hh : herB ((txs tp tb tz tu) i) b z = true := by unfold herB; rw [decide_eq_true (p := tb i = b) (m_cmp.mp c4), decide_eq_true (p := tz i = z) c10]; rfl
              have htd : tdB (txs tp tb tz tu) b z n1 v (i + 1) = (tdB (txs tp tb tz tu) b z n1 v i || false) := by show (_ || (_ && (!decide (tp i = n1) && _))) = _; rw [hh, decide_eq_true c17]; rfl
              have how : owB (txs tp tb tz tu) b z n1 (i + 1) = (owB (txs tp tb tz tu) b z n1 i || true) := by show (_ || (_ && decide (tp i = n1))) = _; rw [hh, decide_eq_true c17]; rfl
              refine ih (i + 1) (by omega) H locs hH hS ls ?_
              rw [htd, how]
              exact lv_sub hl [0, 1, 2, 4, 5, 6, 7, 8] rfl
            · refine lv_aload_n hx hb dX8_led_67 rfl (lv_at hl 4 rfl) ?_
              refine gf_X8_51 hx hb hts hown hK hH hm0 rfl dX8_led_68 ?_
              refine lv_iload hx hb dX8_led_71 (lv_at hl 1 rfl) ?_
              refine hm_iald hx hb hK hH ht3 (vp_in_nI (show i < 60 by omega) (by decide)) dX8_led_73 ?_
              refine lv_topi (fun v23 ev23 => ?_)
              replace ev23 : v23 = (tu i) := ev23.trans (by show tu (nI i).toNatClampNeg = _; rw [nI_clamp (by omega)])
              subst ev23
              refine lv_iload hx hb dX8_led_74 (lv_at hl 8 rfl) ?_
              refine lv_icmp_ne (tgt := 83) hx hb dX8_led_76 (by decide) (fun c24 => ?_) (fun c24 => ?_)
              · refine lv_iconst (v := 0) hx hb dX8_led_83 (by decide) ?_
                refine lv_ior hx hb dX8_led_84 ?_
                refine lv_topi (fun v25 ev25 => ?_)
                replace ev25 : v25 = bI (tdB (txs tp tb tz tu) b z n1 v i || false) := ev25.trans (bI_or _ false)
                subst ev25
                refine lv_istore (lv' := [(6, .int (bI (tdB (txs tp tb tz tu) b z n1 v i || false))), (9, .int 1), (8, .int (nI i)), (7, .int (bI (owB (txs tp tb tz tu) b z n1 i))), (0, .ref m0), (1, .long b), (3, .int z), (4, .int n1), (5, .int v)]) hx hb dX8_led_85 hl (by decide) rfl (fun ls hl => ?_)
                refine lv_iload hx hb dX8_led_87 (lv_at hl 3 rfl) ?_
                refine lv_iload hx hb dX8_led_89 (lv_at hl 1 rfl) ?_
                refine lv_if_eq (tgt := 110) hx hb dX8_led_91 (by decide) (fun c26 => absurd c26 (by decide)) (fun _ => ?_)
                refine lv_aload_n hx hb dX8_led_94 rfl (lv_at hl 4 rfl) ?_
                refine gf_X8_48 hx hb hts hown hK hH hm0 rfl dX8_led_95 ?_
                refine lv_iload hx hb dX8_led_98 (lv_at hl 2 rfl) ?_
                refine hm_iald hx hb hK hH ht2 (vp_in_nI (show i < 60 by omega) (by decide)) dX8_led_100 ?_
                refine lv_topi (fun v27 ev27 => ?_)
                replace ev27 : v27 = (tp i) := ev27.trans (by show tp (nI i).toNatClampNeg = _; rw [nI_clamp (by omega)])
                subst ev27
                refine lv_iload hx hb dX8_led_101 (lv_at hl 7 rfl) ?_
                refine lv_icmp_ne (tgt := 110) hx hb dX8_led_103 (by decide) (fun _ => ?_) (fun c28 => absurd c28 (c17))
                refine lv_iconst (v := 0) hx hb dX8_led_110 (by decide) ?_
                refine lv_ior hx hb dX8_led_111 ?_
                refine lv_topi (fun v29 ev29 => ?_)
                replace ev29 : v29 = bI (owB (txs tp tb tz tu) b z n1 i || false) := ev29.trans (bI_or _ false)
                subst ev29
                refine lv_istore (lv' := [(7, .int (bI (owB (txs tp tb tz tu) b z n1 i || false))), (6, .int (bI (tdB (txs tp tb tz tu) b z n1 v i || false))), (9, .int 1), (8, .int (nI i)), (0, .ref m0), (1, .long b), (3, .int z), (4, .int n1), (5, .int v)]) hx hb dX8_led_112 hl (by decide) rfl (fun ls hl => ?_)
                refine lv_iinc (v := (nI (i + 1))) (lv' := [(8, .int ((nI (i + 1)))), (7, .int (bI (owB (txs tp tb tz tu) b z n1 i || false))), (6, .int (bI (tdB (txs tp tb tz tu) b z n1 v i || false))), (9, .int 1), (0, .ref m0), (1, .long b), (3, .int z), (4, .int n1), (5, .int v)]) hx hb dX8_led_114 hl (k := 3) rfl (nI_1 i) (by decide) rfl (fun ls hl => ?_)
                refine lv_goto (tgt := 9) hx hb dX8_led_117 (by decide) ?_
                have hh : herB ((txs tp tb tz tu) i) b z = true := by unfold herB; rw [decide_eq_true (p := tb i = b) (m_cmp.mp c4), decide_eq_true (p := tz i = z) c10]; rfl
                have htd : tdB (txs tp tb tz tu) b z n1 v (i + 1) = (tdB (txs tp tb tz tu) b z n1 v i || false) := by show (_ || (_ && (!decide (tp i = n1) && decide (tu i = v)))) = _; rw [hh, decide_eq_false c17, decide_eq_false c24]; rfl
                have how : owB (txs tp tb tz tu) b z n1 (i + 1) = (owB (txs tp tb tz tu) b z n1 i || false) := by show (_ || (_ && decide (tp i = n1))) = _; rw [hh, decide_eq_false c17]; rfl
                refine ih (i + 1) (by omega) H locs hH hS ls ?_
                rw [htd, how]
                exact lv_sub hl [0, 1, 2, 4, 5, 6, 7, 8] rfl
              · refine lv_iconst (v := 1) hx hb dX8_led_79 (by decide) ?_
                refine lv_goto (tgt := 84) hx hb dX8_led_80 (by decide) ?_
                refine lv_ior hx hb dX8_led_84 ?_
                refine lv_topi (fun v30 ev30 => ?_)
                replace ev30 : v30 = bI (tdB (txs tp tb tz tu) b z n1 v i || true) := ev30.trans (bI_or _ true)
                subst ev30
                refine lv_istore (lv' := [(6, .int (bI (tdB (txs tp tb tz tu) b z n1 v i || true))), (9, .int 1), (8, .int (nI i)), (7, .int (bI (owB (txs tp tb tz tu) b z n1 i))), (0, .ref m0), (1, .long b), (3, .int z), (4, .int n1), (5, .int v)]) hx hb dX8_led_85 hl (by decide) rfl (fun ls hl => ?_)
                refine lv_iload hx hb dX8_led_87 (lv_at hl 3 rfl) ?_
                refine lv_iload hx hb dX8_led_89 (lv_at hl 1 rfl) ?_
                refine lv_if_eq (tgt := 110) hx hb dX8_led_91 (by decide) (fun c31 => absurd c31 (by decide)) (fun _ => ?_)
                refine lv_aload_n hx hb dX8_led_94 rfl (lv_at hl 4 rfl) ?_
                refine gf_X8_48 hx hb hts hown hK hH hm0 rfl dX8_led_95 ?_
                refine lv_iload hx hb dX8_led_98 (lv_at hl 2 rfl) ?_
                refine hm_iald hx hb hK hH ht2 (vp_in_nI (show i < 60 by omega) (by decide)) dX8_led_100 ?_
                refine lv_topi (fun v32 ev32 => ?_)
                replace ev32 : v32 = (tp i) := ev32.trans (by show tp (nI i).toNatClampNeg = _; rw [nI_clamp (by omega)])
                subst ev32
                refine lv_iload hx hb dX8_led_101 (lv_at hl 7 rfl) ?_
                refine lv_icmp_ne (tgt := 110) hx hb dX8_led_103 (by decide) (fun _ => ?_) (fun c33 => absurd c33 (c17))
                refine lv_iconst (v := 0) hx hb dX8_led_110 (by decide) ?_
                refine lv_ior hx hb dX8_led_111 ?_
                refine lv_topi (fun v34 ev34 => ?_)
                replace ev34 : v34 = bI (owB (txs tp tb tz tu) b z n1 i || false) := ev34.trans (bI_or _ false)
                subst ev34
                refine lv_istore (lv' := [(7, .int (bI (owB (txs tp tb tz tu) b z n1 i || false))), (6, .int (bI (tdB (txs tp tb tz tu) b z n1 v i || true))), (9, .int 1), (8, .int (nI i)), (0, .ref m0), (1, .long b), (3, .int z), (4, .int n1), (5, .int v)]) hx hb dX8_led_112 hl (by decide) rfl (fun ls hl => ?_)
                refine lv_iinc (v := (nI (i + 1))) (lv' := [(8, .int ((nI (i + 1)))), (7, .int (bI (owB (txs tp tb tz tu) b z n1 i || false))), (6, .int (bI (tdB (txs tp tb tz tu) b z n1 v i || true))), (9, .int 1), (0, .ref m0), (1, .long b), (3, .int z), (4, .int n1), (5, .int v)]) hx hb dX8_led_114 hl (k := 3) rfl (nI_1 i) (by decide) rfl (fun ls hl => ?_)
                refine lv_goto (tgt := 9) hx hb dX8_led_117 (by decide) ?_
                have hh : herB ((txs tp tb tz tu) i) b z = true := by unfold herB; rw [decide_eq_true (p := tb i = b) (m_cmp.mp c4), decide_eq_true (p := tz i = z) c10]; rfl
                have htd : tdB (txs tp tb tz tu) b z n1 v (i + 1) = (tdB (txs tp tb tz tu) b z n1 v i || true) := by show (_ || (_ && (!decide (tp i = n1) && decide (tu i = v)))) = _; rw [hh, decide_eq_false c17, decide_eq_true c24]; rfl
                have how : owB (txs tp tb tz tu) b z n1 (i + 1) = (owB (txs tp tb tz tu) b z n1 i || false) := by show (_ || (_ && decide (tp i = n1))) = _; rw [hh, decide_eq_false c17]; rfl
                refine ih (i + 1) (by omega) H locs hH hS ls ?_
                rw [htd, how]
                exact lv_sub hl [0, 1, 2, 4, 5, 6, 7, 8] rfl
  refine lv_iconst (v := 0) hx hb dX8_led_0 (by decide) ?_
  refine lv_istore (lv' := [(6, .int 0), (0, .ref m0), (1, .long b), (3, .int z), (4, .int n1), (5, .int v)]) hx hb dX8_led_1 hl (by decide) rfl (fun ls hl => ?_)
  refine lv_iconst (v := 0) hx hb dX8_led_3 (by decide) ?_
  refine lv_istore (lv' := [(7, .int 0), (6, .int 0), (0, .ref m0), (1, .long b), (3, .int z), (4, .int n1), (5, .int v)]) hx hb dX8_led_4 hl (by decide) rfl (fun ls hl => ?_)
  refine lv_iconst (v := 0) hx hb dX8_led_6 (by decide) ?_
  refine lv_istore (lv' := [(8, .int 0), (7, .int 0), (6, .int 0), (0, .ref m0), (1, .long b), (3, .int z), (4, .int n1), (5, .int v)]) hx hb dX8_led_7 hl (by decide) rfl (fun ls hl => ?_)
  exact loop nt 0 (by omega) s.heap [] hH hS ls (lv_sub hl [0, 1, 2, 3, 4, 5, 6, 7] rfl)
