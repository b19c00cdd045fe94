/-! TileWarden.look: the search, over a cache and its entries -/
set_option maxHeartbeats 4000000 in
set_option maxRecDepth 100000 in
theorem c_X7_look (Γ : Gm) (l : Launch) (n c0 sl se : Nat) (en : Nat → Nat) (rm : Int32) (hn : n ≤ 64) : ∀ (d : Nat), d ≤ 4 → ∀ (t : Nat → Nat) (z : Nat) (S : SS) (pu : Int32) (f : Hm), z < 2 ^ 31 → wt t + 4 * d ≤ 4000 → CA Γ f c0 sl n en S.1 S.2.1 rm S.2.2.1 → f se = some (eR 5 [.ref c0, .int S.2.2.2.1, .int S.2.2.2.2, .int pu]) → (∀ j, j < n → eok (S.1 j)) → Ct Γ l yX7_look cX7_look 13 (some .int) (8 + d) 0 0 [.ref se, .long (b5 t), .int (nI z), .int (nI d)] f (fun v f' => v = some (.int (nI (wp d t z).1)) ∧ CA Γ f' c0 sl n en (trS n rm d t z S).1 (trS n rm d t z S).2.1 rm (trS n rm d t z S).2.2.1 ∧ (∃ p, f' se = some (eR 5 [.ref c0, .int (trS n rm d t z S).2.2.2.1, .int (trS n rm d t z S).2.2.2.2, .int p]) ∧ (d ≠ 0 → p = (wp d t z).2)) ∧ (∀ j, j < n → eok ((trS n rm d t z S).1 j)) ∧ hm_fr (sS se c0 n en) f f') := by
  intro d
  induction d with
  | zero =>
    intro hd t z S pu f hz hw hC hse hok
    refine Ct_of (by decide +kernel) (Nat.le_of_ble_eq_true rfl) ?_
    intro p e s m args below meth c hx hb hr hml hown hin hlocks hts hH hO hK ls hl
    have hl : lv_has ls 13 [(0, .ref se), (1, .long (b5 t)), (3, .int (nI z)), (4, .int (nI 0))] := hl
    have hS : va_S (gA Γ) s.heap s.heap [] := va_S.rf
    refine lv_iload hx hb dX7_look_0 (lv_at hl 3 rfl) ?_
    refine lv_if_gt (tgt := 7) hx hb dX7_look_2 (by decide) (fun c1 => absurd c1 (by decide)) (fun _ => ?_)
    refine lv_iconst (v := 0) hx hb dX7_look_5 (by decide) ?_
    exact hm_iret hx hb hr hlocks hS hH (⟨rfl, hC, ⟨pu, hse, fun q => absurd rfl q⟩, hok, hm_fr.rf⟩) (Nat.le_of_ble_eq_true rfl) (Nat.le_of_ble_eq_true rfl) dX7_look_6
  | succ d ih =>
    intro hd4 t z S pu f hz hw hC hse hok
    have hw0 : wt t ≤ 4000 := by omega
    have ht31 := tl31 hw0
    have hsc : se ≠ c0 := hm_ne hse hC.1 (fun q => by injection q with q; injection q with q; cases q)
    have hsn : ∀ i, i < n → se ≠ en i := fun i hi => hm_ne hse (hC.2.2.1 i hi) (fun q => by injection q with q; injection q with q; cases q)
    refine Ct_of (by decide +kernel) (Nat.le_of_ble_eq_true rfl) ?_
    intro p e s m args below meth c hx hb hr hml hown hin hlocks hts hH hO hK ls hl
    have hl : lv_has ls 13 [(0, .ref se), (1, .long (b5 t)), (3, .int (nI z)), (4, .int (nI (d + 1)))] := hl
    have hS : va_S (gA Γ) s.heap s.heap [] := va_S.rf
    have hgo : ∀ to, to < 4 → tl 32 (pushT t to) := fun to hto => pushT_lt ht31 hto
    have loop : (∀ j, j < n → isFor (S.1 j) (b5 t) (nI z) (nI (d + 1)) = false) → ∀ (k_ to : Nat) (f1 : Hm) (p1 : Int32), to + k_ = 4 → CA Γ f1 c0 sl n en (foldS (goN t) (stS n rm d t z) to (missS S)).1 (foldS (goN t) (stS n rm d t z) to (missS S)).2.1 rm (foldS (goN t) (stS n rm d t z) to (missS S)).2.2.1 → f1 se = some (eR 5 [.ref c0, .int (foldS (goN t) (stS n rm d t z) to (missS S)).2.2.2.1, .int (foldS (goN t) (stS n rm d t z) to (missS S)).2.2.2.2, .int p1]) → (∀ j, j < n → eok ((foldS (goN t) (stS n rm d t z) to (missS S)).1 j)) → hm_fr (sS se c0 n en) f f1 → ∀ (H : Heap) (locs : List Loc), hm_H Γ f1 H → va_S (gA Γ) s.heap H locs → ∀ ls : Array Slot, lv_has ls 13 [(8, .int (nI to)), (7, .int ((bestF (goN t) (wv d t z) to).2)), (6, .int (nI (bestF (goN t) (wv d t z) to).1)), (0, .ref se), (1, .long (b5 t)), (3, .int (nI z)), (4, .int (nI (d + 1)))] → W p l e (rmk (8 + (d + 1)) 0 0) s m args below meth c H locs 0 0 (MQ below (hm_Q Γ (fun v f' => v = some (.int (nI (wp (d + 1) t z).1)) ∧ CA Γ f' c0 sl n en (trS n rm (d + 1) t z S).1 (trS n rm (d + 1) t z S).2.1 rm (trS n rm (d + 1) t z S).2.2.1 ∧ (∃ p, f' se = some (eR 5 [.ref c0, .int (trS n rm (d + 1) t z S).2.2.2.1, .int (trS n rm (d + 1) t z S).2.2.2.2, .int p]) ∧ ((d + 1) ≠ 0 → p = (wp (d + 1) t z).2)) ∧ (∀ j, j < n → eok ((trS n rm (d + 1) t z S).1 j)) ∧ hm_fr (sS se c0 n en) f f')) args s 0 0 (gA Γ)) (F0 m 78 ls []) := by
      intro hno k_
      induction k_ with
      | zero =>
        intro to f1 p1 hto hC1 hse1 hok1 hfr H locs hH hS ls hl
        have hto4 : to = 4 := by omega
        subst hto4
        obtain ⟨hc, -⟩ := id hC1
        refine lv_iload hx hb dX7_look_78 (lv_at hl 0 rfl) ?_
        refine lv_iconst (v := 4) hx hb dX7_look_80 (by decide) ?_
        refine lv_icmp_ge (tgt := 167) hx hb dX7_look_81 (by decide) (fun _ => ?_) (fun c1 => absurd (by decide) c1)
        refine lv_aload_n hx hb dX7_look_167 rfl (lv_at hl 3 rfl) ?_
        refine gf_X7_286 hx hb hts hown hK hH hse1 rfl dX7_look_168 ?_
        refine lv_lload_n hx hb dX7_look_171 rfl (lv_at hl 4 rfl) ?_
        refine lv_iload_n hx hb dX7_look_172 rfl (lv_at hl 5 rfl) ?_
        refine lv_iload hx hb dX7_look_173 (lv_at hl 6 rfl) ?_
        refine lv_iload hx hb dX7_look_175 (lv_at hl 2 rfl) ?_
        refine lv_iload hx hb dX7_look_177 (lv_at hl 1 rfl) ?_
        refine hm_callV (rest := []) (k := 3) q3_199 q3_200 q1_5 q3_202 q3_201 rfl nm_X1_put rfl hx hb hml hown hts hK hO hS hH hl.1 hc (c_X1_put Γ l (b5 t) (nI z) (nI (d + 1)) (nI (bestF (goN t) (wv d t z) 4).1) (bestF (goN t) (wv d t z) 4).2 c0 sl n en (foldS (goN t) (stS n rm d t z) 4 (missS S)).1 (foldS (goN t) (stS n rm d t z) 4 (missS S)).2.1 rm (foldS (goN t) (stS n rm d t z) 4 (missS S)).2.2.1 f1 hC1 hn) ⟨by show _ ≤ 10 * (8 + (d + 1)); omega, by show _ ≤ 200 * (8 + (d + 1)); omega⟩ ⟨Nat.le_of_ble_eq_true rfl, Nat.le_of_ble_eq_true rfl⟩ rfl (Nat.le_of_ble_eq_true rfl) dX7_look_179 (fun v_ f_ H locs hp_ hH hS => ?_)
        obtain ⟨rfl, hC2, hfr2⟩ := hp_
        refine W.eq (g2 := F0 m 182 ls []) rfl ?_
        have hse2 : f_ se = some (eR 5 [.ref c0, .int (foldS (goN t) (stS n rm d t z) 4 (missS S)).2.2.2.1, .int (foldS (goN t) (stS n rm d t z) 4 (missS S)).2.2.2.2, .int p1]) := (hfr2 se (fun q => by rcases q with q | ⟨i, hi, q⟩; exact hsc q; exact hsn i hi q)).trans hse1
        refine lv_aload_n hx hb dX7_look_182 rfl (lv_at hl 3 rfl) ?_
        refine lv_iload hx hb dX7_look_183 (lv_at hl 1 rfl) ?_
        refine pf_X7_185 hx hb hts hown hK hO hS hH hse2 rfl (Nat.le_of_ble_eq_true rfl) rfl dX7_look_185 (fun H locs hH hS => ?_)
        obtain ⟨f2, ef2⟩ : ∃ zz_, zz_ = hm_up f_ se (eR 5 [.ref c0, .int ((foldS (goN t) (stS n rm d t z) 4 (missS S)).2.2.2.1), .int ((foldS (goN t) (stS n rm d t z) 4 (missS S)).2.2.2.2), .int ((bestF (goN t) (wv d t z) 4).2)]) := ⟨_, rfl⟩
        have hH : hm_H Γ f2 H := by rw [ef2]; exact hH
        have h3 : f2 se = some (eR 5 [.ref c0, .int ((foldS (goN t) (stS n rm d t z) 4 (missS S)).2.2.2.1), .int ((foldS (goN t) (stS n rm d t z) 4 (missS S)).2.2.2.2), .int ((bestF (goN t) (wv d t z) 4).2)]) := by rw [ef2]; exact hm_us
        refine lv_iload hx hb dX7_look_188 (lv_at hl 2 rfl) ?_
        subst ef2
        exact hm_iret hx hb hr hlocks hS hH (⟨by rw [wp_s], by rw [trS_miss hno, wp_s]; exact hC2.kept (S := fun q => q = se) (hm_fr.rf.up rfl) (Ne.symm hsc) (by obtain ⟨g_, hg_, -⟩ := hC2.2.1; exact hm_ne hg_ hse2 (fun q => by cases q)) (fun i hi => Ne.symm (hsn i hi)), ⟨_, by rw [trS_miss hno]; exact hm_us, fun _ => by rw [wp_s]⟩, by rw [trS_miss hno]; exact eok_putC hok1 (eok_new (by omega) hd4 hz hw), ((hfr.tr (hfr2.mono (fun q hq => Or.inr hq))).up (Or.inl rfl))⟩) (Nat.le_of_ble_eq_true rfl) (Nat.le_of_ble_eq_true rfl) dX7_look_190
      | succ k_ ihk =>
        intro to f1 p1 hto_ hC1 hse1 hok1 hfr H locs hH hS ls hl
        have hto : to < 4 := by omega
        have hgn := goN_5 ht31 hto
        have hbl := wv_le (d := d) (t := t) (z := z) (k := to) (by omega) hto
        have hbb : (bestF (goN t) (wv d t z) to).1 ≤ (d + 1) * 12288 := bestF_le (fun k hk _ => wv_le (by omega) (by omega))
        have hd5 : (d + 1) * 12288 ≤ 61440 := by omega
        have hwn := wt_next (t := t) (z := z) hto
        rcases Nat.eq_zero_or_pos d with hd0 | hd0
        · subst hd0
          refine lv_iload hx hb dX7_look_78 (lv_at hl 0 rfl) ?_
          refine lv_iconst (v := 4) hx hb dX7_look_80 (by decide) ?_
          refine lv_icmp_ge (tgt := 167) hx hb dX7_look_81 (by decide) (fun c1 => absurd c1 (nI_ge (a := to) (b := 4) hto (by decide))) (fun _ => ?_)
          refine lv_lload_n hx hb dX7_look_84 rfl (lv_at hl 4 rfl) ?_
          refine lv_iload hx hb dX7_look_85 (lv_at hl 0 rfl) ?_
          refine hm_callS (rest := []) (k := 4) q3_195 q3_93 q1_24 q3_94 nm_X0_pushed rfl hx hb hml hown hts hK hO hS hH hl.1 (c_X0_pushed Γ l t to f1 ht31 hto) ⟨by show _ ≤ 10 * (8 + (0 + 1)); omega, by show _ ≤ 200 * (8 + (0 + 1)); omega⟩ ⟨Nat.le_of_ble_eq_true rfl, Nat.le_of_ble_eq_true rfl⟩ rfl (Nat.le_of_ble_eq_true rfl) dX7_look_87 (fun v_ f_ H locs hp_ hH hS => ?_)
          obtain ⟨rfl, ef_⟩ := hp_
          rw [ef_] at hH
          clear ef_
          refine W.eq (g2 := F0 m 90 ls [.long (b5 (pushT t to))]) rfl ?_
          refine lv_lstore (lv' := [(9, .long (b5 (pushT t to))), (8, .int (nI to)), (7, .int ((bestF (goN t) (wv 0 t z) to).2)), (6, .int (nI (bestF (goN t) (wv 0 t z) to).1)), (0, .ref se), (1, .long (b5 t)), (3, .int (nI z)), (4, .int (nI (0 + 1)))]) hx hb dX7_look_90 hl (by decide) rfl (fun ls hl => ?_)
          refine lv_lload hx hb dX7_look_92 (lv_at hl 0 rfl) ?_
          refine lv_lload_n hx hb dX7_look_94 rfl (lv_at hl 5 rfl) ?_
          refine W.lcmp hx hb dX7_look_95 ?_
          refine lv_if_eq (tgt := 161) hx hb dX7_look_96 (by decide) (fun c3 => ?_) (fun c3 => ?_)
          · refine lv_iinc (v := (nI (to + 1))) (lv' := [(8, .int ((nI (to + 1)))), (9, .long (b5 (pushT t to))), (7, .int ((bestF (goN t) (wv 0 t z) to).2)), (6, .int (nI (bestF (goN t) (wv 0 t z) to).1)), (0, .ref se), (1, .long (b5 t)), (3, .int (nI z)), (4, .int (nI (0 + 1)))]) hx hb dX7_look_161 hl (k := 1) rfl (nI_1 to) (by decide) rfl (fun ls hl => ?_)
            refine lv_goto (tgt := 78) hx hb dX7_look_164 (by decide) ?_
            have hg0 : goN t to = false := hgn.mp (m_cmp.mp c3)
            refine ihk (to + 1) f1 p1 (by omega) ?_ ?_ ?_ hfr H locs hH hS ls ?_
            · rw [foldS_s hg0]; exact hC1
            · rw [foldS_s hg0]; exact hse1
            · rw [foldS_s hg0]; exact hok1
            · rw [bestF_s hg0]; exact lv_sub hl [0, 2, 3, 4, 5, 6, 7] rfl
          · refine lv_iload hx hb dX7_look_99 (lv_at hl 7 rfl) ?_
            refine lv_iconst (v := 1) hx hb dX7_look_101 (by decide) ?_
            refine lv_icmp_ne (tgt := 109) hx hb dX7_look_102 (by decide) (fun c4 => absurd (rfl) c4) (fun _ => ?_)
            refine lv_iconst (v := 0) hx hb dX7_look_105 (by decide) ?_
            refine lv_goto (tgt := 127) hx hb dX7_look_106 (by decide) ?_
            refine lv_istore (lv' := [(11, .int 0), (9, .long (b5 (pushT t to))), (8, .int (nI to)), (7, .int ((bestF (goN t) (wv 0 t z) to).2)), (6, .int (nI (bestF (goN t) (wv 0 t z) to).1)), (0, .ref se), (1, .long (b5 t)), (3, .int (nI z)), (4, .int (nI (0 + 1)))]) hx hb dX7_look_127 hl (by decide) rfl (fun ls hl => ?_)
            refine lv_lload_n hx hb dX7_look_129 rfl (lv_at hl 6 rfl) ?_
            refine lv_iload hx hb dX7_look_130 (lv_at hl 2 rfl) ?_
            refine hm_callS (rest := []) (k := 3) q3_198 q3_141 q1_24 q3_142 nm_X0_gainOf rfl hx hb hml hown hts hK hO hS hH hl.1 (c_X0_gainOf Γ l t to f1 ht31 hto) ⟨by show _ ≤ 10 * (8 + (0 + 1)); omega, by show _ ≤ 200 * (8 + (0 + 1)); omega⟩ ⟨Nat.le_of_ble_eq_true rfl, Nat.le_of_ble_eq_true rfl⟩ rfl (Nat.le_of_ble_eq_true rfl) dX7_look_132 (fun v_ f_ H locs hp_ hH hS => ?_)
            obtain ⟨rfl, ef_⟩ := hp_
            rw [ef_] at hH
            clear ef_
            refine W.eq (g2 := F0 m 135 ls [.int (nI (gainT t to))]) rfl ?_
            refine lv_iload hx hb dX7_look_135 (lv_at hl 0 rfl) ?_
            refine lv_iadd hx hb dX7_look_137 ?_
            refine lv_topi (fun v5 ev5 => ?_)
            replace ev5 : v5 = nI (wv 0 t z to) := ev5.trans ((by show nI (gainT t to) + 0 = nI (gainT t to + 0); rw [Int32.add_zero]; rfl))
            subst ev5
            refine lv_istore (lv' := [(12, .int (nI (wv 0 t z to))), (11, .int 0), (9, .long (b5 (pushT t to))), (8, .int (nI to)), (7, .int ((bestF (goN t) (wv 0 t z) to).2)), (6, .int (nI (bestF (goN t) (wv 0 t z) to).1)), (0, .ref se), (1, .long (b5 t)), (3, .int (nI z)), (4, .int (nI (0 + 1)))]) hx hb dX7_look_138 hl (by decide) rfl (fun ls hl => ?_)
            refine lv_iload hx hb dX7_look_140 (lv_at hl 4 rfl) ?_
            refine lv_iconst (v := (-1)) hx hb dX7_look_142 (by decide) ?_
            refine lv_icmp_eq (tgt := 153) hx hb dX7_look_143 (by decide) (fun c6 => ?_) (fun c6 => ?_)
            · refine lv_iload hx hb dX7_look_153 (lv_at hl 0 rfl) ?_
              refine lv_istore (lv' := [(6, .int (nI (wv 0 t z to))), (12, .int (nI (wv 0 t z to))), (11, .int 0), (9, .long (b5 (pushT t to))), (8, .int (nI to)), (7, .int ((bestF (goN t) (wv 0 t z) to).2)), (0, .ref se), (1, .long (b5 t)), (3, .int (nI z)), (4, .int (nI (0 + 1)))]) hx hb dX7_look_155 hl (by decide) rfl (fun ls hl => ?_)
              refine lv_iload hx hb dX7_look_157 (lv_at hl 4 rfl) ?_
              refine lv_istore (lv' := [(7, .int (nI to)), (6, .int (nI (wv 0 t z to))), (12, .int (nI (wv 0 t z to))), (11, .int 0), (9, .long (b5 (pushT t to))), (8, .int (nI to)), (0, .ref se), (1, .long (b5 t)), (3, .int (nI z)), (4, .int (nI (0 + 1)))]) hx hb dX7_look_159 hl (by decide) rfl (fun ls hl => ?_)
              refine lv_iinc (v := (nI (to + 1))) (lv' := [(8, .int ((nI (to + 1)))), (7, .int (nI to)), (6, .int (nI (wv 0 t z to))), (12, .int (nI (wv 0 t z to))), (11, .int 0), (9, .long (b5 (pushT t to))), (0, .ref se), (1, .long (b5 t)), (3, .int (nI z)), (4, .int (nI (0 + 1)))]) hx hb dX7_look_161 hl (k := 5) rfl (nI_1 to) (by decide) rfl (fun ls hl => ?_)
              refine lv_goto (tgt := 78) hx hb dX7_look_164 (by decide) ?_
              have hg1 : goN t to = true := by
                cases hq : goN t to with
                | true => rfl
                | false => exact absurd (m_cmp.mpr (hgn.mpr hq)) c3
              have hbe := bestF_n hg1 (Or.inl c6)
              refine ihk (to + 1) f1 p1 (by omega) ?_ ?_ ?_ hfr H locs hH hS ls ?_
              · rw [foldS_n hg1]; exact hC1
              · rw [foldS_n hg1]; exact hse1
              · rw [foldS_n hg1]; exact hok1
              · rw [hbe]; exact lv_sub hl [0, 1, 2, 6, 7, 8, 9] rfl
            · refine lv_iload hx hb dX7_look_146 (lv_at hl 0 rfl) ?_
              refine lv_iload hx hb dX7_look_148 (lv_at hl 5 rfl) ?_
              refine lv_icmp_le (tgt := 161) hx hb dX7_look_150 (by decide) (fun c7 => ?_) (fun c7 => ?_)
              · refine lv_iinc (v := (nI (to + 1))) (lv' := [(8, .int ((nI (to + 1)))), (12, .int (nI (wv 0 t z to))), (11, .int 0), (9, .long (b5 (pushT t to))), (7, .int ((bestF (goN t) (wv 0 t z) to).2)), (6, .int (nI (bestF (goN t) (wv 0 t z) to).1)), (0, .ref se), (1, .long (b5 t)), (3, .int (nI z)), (4, .int (nI (0 + 1)))]) hx hb dX7_look_161 hl (k := 3) rfl (nI_1 to) (by decide) rfl (fun ls hl => ?_)
                refine lv_goto (tgt := 78) hx hb dX7_look_164 (by decide) ?_
                have hg1 : goN t to = true := by
                  cases hq : goN t to with
                  | true => rfl
                  | false => exact absurd (m_cmp.mpr (hgn.mpr hq)) c3
                have hbe := bestF_o hg1 (fun q => q.elim (fun q => c6 q) (fun q => absurd (Int32.le_iff_toInt_le.mp c7) (by rw [nI_toInt (by omega), nI_toInt (by omega)]; omega)))
                refine ihk (to + 1) f1 p1 (by omega) ?_ ?_ ?_ hfr H locs hH hS ls ?_
                · rw [foldS_n hg1]; exact hC1
                · rw [foldS_n hg1]; exact hse1
                · rw [foldS_n hg1]; exact hok1
                · rw [hbe]; exact lv_sub hl [0, 4, 5, 6, 7, 8, 9] rfl
              · refine lv_iload hx hb dX7_look_153 (lv_at hl 0 rfl) ?_
                refine lv_istore (lv' := [(6, .int (nI (wv 0 t z to))), (12, .int (nI (wv 0 t z to))), (11, .int 0), (9, .long (b5 (pushT t to))), (8, .int (nI to)), (7, .int ((bestF (goN t) (wv 0 t z) to).2)), (0, .ref se), (1, .long (b5 t)), (3, .int (nI z)), (4, .int (nI (0 + 1)))]) hx hb dX7_look_155 hl (by decide) rfl (fun ls hl => ?_)
                refine lv_iload hx hb dX7_look_157 (lv_at hl 4 rfl) ?_
                refine lv_istore (lv' := [(7, .int (nI to)), (6, .int (nI (wv 0 t z to))), (12, .int (nI (wv 0 t z to))), (11, .int 0), (9, .long (b5 (pushT t to))), (8, .int (nI to)), (0, .ref se), (1, .long (b5 t)), (3, .int (nI z)), (4, .int (nI (0 + 1)))]) hx hb dX7_look_159 hl (by decide) rfl (fun ls hl => ?_)
                refine lv_iinc (v := (nI (to + 1))) (lv' := [(8, .int ((nI (to + 1)))), (7, .int (nI to)), (6, .int (nI (wv 0 t z to))), (12, .int (nI (wv 0 t z to))), (11, .int 0), (9, .long (b5 (pushT t to))), (0, .ref se), (1, .long (b5 t)), (3, .int (nI z)), (4, .int (nI (0 + 1)))]) hx hb dX7_look_161 hl (k := 5) rfl (nI_1 to) (by decide) rfl (fun ls hl => ?_)
                refine lv_goto (tgt := 78) hx hb dX7_look_164 (by decide) ?_
                have hg1 : goN t to = true := by
                  cases hq : goN t to with
                  | true => rfl
                  | false => exact absurd (m_cmp.mpr (hgn.mpr hq)) c3
                have hbe := bestF_n hg1 (Or.inr ((nI_ltI (by omega) (by omega)).mp (Int32.not_le.mp c7)))
                refine ihk (to + 1) f1 p1 (by omega) ?_ ?_ ?_ hfr H locs hH hS ls ?_
                · rw [foldS_n hg1]; exact hC1
                · rw [foldS_n hg1]; exact hse1
                · rw [foldS_n hg1]; exact hok1
                · rw [hbe]; exact lv_sub hl [0, 1, 2, 6, 7, 8, 9] rfl
        · refine lv_iload hx hb dX7_look_78 (lv_at hl 0 rfl) ?_
          refine lv_iconst (v := 4) hx hb dX7_look_80 (by decide) ?_
          refine lv_icmp_ge (tgt := 167) hx hb dX7_look_81 (by decide) (fun c1 => absurd c1 (nI_ge (a := to) (b := 4) hto (by decide))) (fun _ => ?_)
          refine lv_lload_n hx hb dX7_look_84 rfl (lv_at hl 4 rfl) ?_
          refine lv_iload hx hb dX7_look_85 (lv_at hl 0 rfl) ?_
          refine hm_callS (rest := []) (k := 4) q3_195 q3_93 q1_24 q3_94 nm_X0_pushed rfl hx hb hml hown hts hK hO hS hH hl.1 (c_X0_pushed Γ l t to f1 ht31 hto) ⟨by show _ ≤ 10 * (8 + (d + 1)); omega, by show _ ≤ 200 * (8 + (d + 1)); omega⟩ ⟨Nat.le_of_ble_eq_true rfl, Nat.le_of_ble_eq_true rfl⟩ rfl (Nat.le_of_ble_eq_true rfl) dX7_look_87 (fun v_ f_ H locs hp_ hH hS => ?_)
          obtain ⟨rfl, ef_⟩ := hp_
          rw [ef_] at hH
          clear ef_
          refine W.eq (g2 := F0 m 90 ls [.long (b5 (pushT t to))]) rfl ?_
          refine lv_lstore (lv' := [(9, .long (b5 (pushT t to))), (8, .int (nI to)), (7, .int ((bestF (goN t) (wv d t z) to).2)), (6, .int (nI (bestF (goN t) (wv d t z) to).1)), (0, .ref se), (1, .long (b5 t)), (3, .int (nI z)), (4, .int (nI (d + 1)))]) hx hb dX7_look_90 hl (by decide) rfl (fun ls hl => ?_)
          refine lv_lload hx hb dX7_look_92 (lv_at hl 0 rfl) ?_
          refine lv_lload_n hx hb dX7_look_94 rfl (lv_at hl 5 rfl) ?_
          refine W.lcmp hx hb dX7_look_95 ?_
          refine lv_if_eq (tgt := 161) hx hb dX7_look_96 (by decide) (fun c3 => ?_) (fun c3 => ?_)
          · refine lv_iinc (v := (nI (to + 1))) (lv' := [(8, .int ((nI (to + 1)))), (9, .long (b5 (pushT t to))), (7, .int ((bestF (goN t) (wv d t z) to).2)), (6, .int (nI (bestF (goN t) (wv d t z) to).1)), (0, .ref se), (1, .long (b5 t)), (3, .int (nI z)), (4, .int (nI (d + 1)))]) hx hb dX7_look_161 hl (k := 1) rfl (nI_1 to) (by decide) rfl (fun ls hl => ?_)
            refine lv_goto (tgt := 78) hx hb dX7_look_164 (by decide) ?_
            have hg0 : goN t to = false := hgn.mp (m_cmp.mp c3)
            refine ihk (to + 1) f1 p1 (by omega) ?_ ?_ ?_ hfr H locs hH hS ls ?_
            · rw [foldS_s hg0]; exact hC1
            · rw [foldS_s hg0]; exact hse1
            · rw [foldS_s hg0]; exact hok1
            · rw [bestF_s hg0]; exact lv_sub hl [0, 2, 3, 4, 5, 6, 7] rfl
          · refine lv_iload hx hb dX7_look_99 (lv_at hl 7 rfl) ?_
            refine lv_iconst (v := 1) hx hb dX7_look_101 (by decide) ?_
            refine lv_icmp_ne (tgt := 109) hx hb dX7_look_102 (by decide) (fun _ => ?_) (fun c4 => absurd c4 ((fun q => absurd ((nI_eq (b := 1) (by omega) (by decide)).mp q) (by omega))))
            refine lv_aload_n hx hb dX7_look_109 rfl (lv_at hl 4 rfl) ?_
            refine lv_lload hx hb dX7_look_110 (lv_at hl 0 rfl) ?_
            refine lv_iload_n hx hb dX7_look_112 rfl (lv_at hl 6 rfl) ?_
            refine hm_callS (rest := [.ref se]) (k := 3) q3_196 q3_20 q1_24 q3_21 nm_X0_drawn rfl hx hb hml hown hts hK hO hS hH hl.1 (c_X0_drawn Γ l (pushT t to) z f1 (hgo to hto)) ⟨by show _ ≤ 10 * (8 + (d + 1)); omega, by show _ ≤ 200 * (8 + (d + 1)); omega⟩ ⟨Nat.le_of_ble_eq_true rfl, Nat.le_of_ble_eq_true rfl⟩ rfl (Nat.le_of_ble_eq_true rfl) dX7_look_113 (fun v_ f_ H locs hp_ hH hS => ?_)
            obtain ⟨rfl, ef_⟩ := hp_
            rw [ef_] at hH
            clear ef_
            refine W.eq (g2 := F0 m 116 ls [.long (b5 (drawT (pushT t to) z)), .ref se]) rfl ?_
            refine lv_iload_n hx hb dX7_look_116 rfl (lv_at hl 6 rfl) ?_
            refine hm_callS (rest := [.long (b5 (drawT (pushT t to) z)), .ref se]) (k := 2) q3_197 q3_12 q1_24 q3_13 nm_X0_drawnZ rfl hx hb hml hown hts hK hO hS hH hl.1 (c_X0_drawnZ Γ l z f1) ⟨by show _ ≤ 10 * (8 + (d + 1)); omega, by show _ ≤ 200 * (8 + (d + 1)); omega⟩ ⟨Nat.le_of_ble_eq_true rfl, Nat.le_of_ble_eq_true rfl⟩ rfl (Nat.le_of_ble_eq_true rfl) dX7_look_117 (fun v_ f_ H locs hp_ hH hS => ?_)
            obtain ⟨rfl, ef_⟩ := hp_
            rw [ef_] at hH
            clear ef_
            refine W.eq (g2 := F0 m 120 ls [.int (nI (nxt (nxt z))), .long (b5 (drawT (pushT t to) z)), .ref se]) rfl ?_
            refine lv_iload hx hb dX7_look_120 (lv_at hl 7 rfl) ?_
            refine lv_iconst (v := 1) hx hb dX7_look_122 (by decide) ?_
            refine lv_isub hx hb dX7_look_123 ?_
            refine lv_topi (fun v5 ev5 => ?_)
            replace ev5 : v5 = nI d := ev5.trans ((by show nI (d + 1) - 1 = nI d; exact nI_pred d))
            subst ev5
            refine hm_callS (rest := []) (k := 8 + d) q3_180 q3_181 q1_1 q3_182 nm_X7_look rfl hx hb hml hown hts hK hO hS hH hl.1 (ih (by omega) (drawT (pushT t to) z) (nxt (nxt z)) (foldS (goN t) (stS n rm d t z) to (missS S)) p1 f1 (nxt_lt _) (by omega) hC1 hse1 hok1) ⟨by show _ ≤ 10 * (8 + (d + 1)); omega, by show _ ≤ 200 * (8 + (d + 1)); omega⟩ ⟨Nat.le_of_ble_eq_true rfl, Nat.le_of_ble_eq_true rfl⟩ rfl (Nat.le_of_ble_eq_true rfl) dX7_look_124 (fun v_ fr_ H locs hp_ hH hS => ?_)
            obtain ⟨rfl, hC2, ⟨p2, hse2, -⟩, hok2, hfr2⟩ := hp_
            refine W.eq (g2 := F0 m 127 ls [.int (nI (wp d (drawT (pushT t to) z) (nxt (nxt z))).1)]) rfl ?_
            refine lv_istore (lv' := [(11, .int (nI (wp d (drawT (pushT t to) z) (nxt (nxt z))).1)), (9, .long (b5 (pushT t to))), (8, .int (nI to)), (7, .int ((bestF (goN t) (wv d t z) to).2)), (6, .int (nI (bestF (goN t) (wv d t z) to).1)), (0, .ref se), (1, .long (b5 t)), (3, .int (nI z)), (4, .int (nI (d + 1)))]) hx hb dX7_look_127 hl (by decide) rfl (fun ls hl => ?_)
            refine lv_lload_n hx hb dX7_look_129 rfl (lv_at hl 6 rfl) ?_
            refine lv_iload hx hb dX7_look_130 (lv_at hl 2 rfl) ?_
            refine hm_callS (rest := []) (k := 3) q3_198 q3_141 q1_24 q3_142 nm_X0_gainOf rfl hx hb hml hown hts hK hO hS hH hl.1 (c_X0_gainOf Γ l t to fr_ ht31 hto) ⟨by show _ ≤ 10 * (8 + (d + 1)); omega, by show _ ≤ 200 * (8 + (d + 1)); omega⟩ ⟨Nat.le_of_ble_eq_true rfl, Nat.le_of_ble_eq_true rfl⟩ rfl (Nat.le_of_ble_eq_true rfl) dX7_look_132 (fun v_ f_ H locs hp_ hH hS => ?_)
            obtain ⟨rfl, ef_⟩ := hp_
            rw [ef_] at hH
            clear ef_
            refine W.eq (g2 := F0 m 135 ls [.int (nI (gainT t to))]) rfl ?_
            refine lv_iload hx hb dX7_look_135 (lv_at hl 0 rfl) ?_
            refine lv_iadd hx hb dX7_look_137 ?_
            refine lv_topi (fun v6 ev6 => ?_)
            replace ev6 : v6 = nI (wv d t z to) := ev6.trans (nI_add _ _)
            subst ev6
            refine lv_istore (lv' := [(12, .int (nI (wv d t z to))), (11, .int (nI (wp d (drawT (pushT t to) z) (nxt (nxt z))).1)), (9, .long (b5 (pushT t to))), (8, .int (nI to)), (7, .int ((bestF (goN t) (wv d t z) to).2)), (6, .int (nI (bestF (goN t) (wv d t z) to).1)), (0, .ref se), (1, .long (b5 t)), (3, .int (nI z)), (4, .int (nI (d + 1)))]) hx hb dX7_look_138 hl (by decide) rfl (fun ls hl => ?_)
            refine lv_iload hx hb dX7_look_140 (lv_at hl 4 rfl) ?_
            refine lv_iconst (v := (-1)) hx hb dX7_look_142 (by decide) ?_
            refine lv_icmp_eq (tgt := 153) hx hb dX7_look_143 (by decide) (fun c7 => ?_) (fun c7 => ?_)
            · refine lv_iload hx hb dX7_look_153 (lv_at hl 0 rfl) ?_
              refine lv_istore (lv' := [(6, .int (nI (wv d t z to))), (12, .int (nI (wv d t z to))), (11, .int (nI (wp d (drawT (pushT t to) z) (nxt (nxt z))).1)), (9, .long (b5 (pushT t to))), (8, .int (nI to)), (7, .int ((bestF (goN t) (wv d t z) to).2)), (0, .ref se), (1, .long (b5 t)), (3, .int (nI z)), (4, .int (nI (d + 1)))]) hx hb dX7_look_155 hl (by decide) rfl (fun ls hl => ?_)
              refine lv_iload hx hb dX7_look_157 (lv_at hl 4 rfl) ?_
              refine lv_istore (lv' := [(7, .int (nI to)), (6, .int (nI (wv d t z to))), (12, .int (nI (wv d t z to))), (11, .int (nI (wp d (drawT (pushT t to) z) (nxt (nxt z))).1)), (9, .long (b5 (pushT t to))), (8, .int (nI to)), (0, .ref se), (1, .long (b5 t)), (3, .int (nI z)), (4, .int (nI (d + 1)))]) hx hb dX7_look_159 hl (by decide) rfl (fun ls hl => ?_)
              refine lv_iinc (v := (nI (to + 1))) (lv' := [(8, .int ((nI (to + 1)))), (7, .int (nI to)), (6, .int (nI (wv d t z to))), (12, .int (nI (wv d t z to))), (11, .int (nI (wp d (drawT (pushT t to) z) (nxt (nxt z))).1)), (9, .long (b5 (pushT t to))), (0, .ref se), (1, .long (b5 t)), (3, .int (nI z)), (4, .int (nI (d + 1)))]) hx hb dX7_look_161 hl (k := 5) rfl (nI_1 to) (by decide) rfl (fun ls hl => ?_)
              refine lv_goto (tgt := 78) hx hb dX7_look_164 (by decide) ?_
              have hg1 : goN t to = true := by
                cases hq : goN t to with
                | true => rfl
                | false => exact absurd (m_cmp.mpr (hgn.mpr hq)) c3
              have hbe := bestF_n hg1 (Or.inl c7)
              refine ihk (to + 1) fr_ p2 (by omega) ?_ ?_ ?_ (hfr.tr hfr2) H locs hH hS ls ?_
              · rw [foldS_n hg1]; exact hC2
              · rw [foldS_n hg1]; exact hse2
              · rw [foldS_n hg1]; exact hok2
              · rw [hbe]; exact lv_sub hl [0, 1, 2, 6, 7, 8, 9] rfl
            · refine lv_iload hx hb dX7_look_146 (lv_at hl 0 rfl) ?_
              refine lv_iload hx hb dX7_look_148 (lv_at hl 5 rfl) ?_
              refine lv_icmp_le (tgt := 161) hx hb dX7_look_150 (by decide) (fun c8 => ?_) (fun c8 => ?_)
              · refine lv_iinc (v := (nI (to + 1))) (lv' := [(8, .int ((nI (to + 1)))), (12, .int (nI (wv d t z to))), (11, .int (nI (wp d (drawT (pushT t to) z) (nxt (nxt z))).1)), (9, .long (b5 (pushT t to))), (7, .int ((bestF (goN t) (wv d t z) to).2)), (6, .int (nI (bestF (goN t) (wv d t z) to).1)), (0, .ref se), (1, .long (b5 t)), (3, .int (nI z)), (4, .int (nI (d + 1)))]) hx hb dX7_look_161 hl (k := 3) rfl (nI_1 to) (by decide) rfl (fun ls hl => ?_)
                refine lv_goto (tgt := 78) hx hb dX7_look_164 (by decide) ?_
                have hg1 : goN t to = true := by
                  cases hq : goN t to with
                  | true => rfl
                  | false => exact absurd (m_cmp.mpr (hgn.mpr hq)) c3
                have hbe := bestF_o hg1 (fun q => q.elim (fun q => c7 q) (fun q => absurd (Int32.le_iff_toInt_le.mp c8) (by rw [nI_toInt (by omega), nI_toInt (by omega)]; omega)))
                refine ihk (to + 1) fr_ p2 (by omega) ?_ ?_ ?_ (hfr.tr hfr2) H locs hH hS ls ?_
                · rw [foldS_n hg1]; exact hC2
                · rw [foldS_n hg1]; exact hse2
                · rw [foldS_n hg1]; exact hok2
                · rw [hbe]; exact lv_sub hl [0, 4, 5, 6, 7, 8, 9] rfl
              · refine lv_iload hx hb dX7_look_153 (lv_at hl 0 rfl) ?_
                refine lv_istore (lv' := [(6, .int (nI (wv d t z to))), (12, .int (nI (wv d t z to))), (11, .int (nI (wp d (drawT (pushT t to) z) (nxt (nxt z))).1)), (9, .long (b5 (pushT t to))), (8, .int (nI to)), (7, .int ((bestF (goN t) (wv d t z) to).2)), (0, .ref se), (1, .long (b5 t)), (3, .int (nI z)), (4, .int (nI (d + 1)))]) hx hb dX7_look_155 hl (by decide) rfl (fun ls hl => ?_)
                refine lv_iload hx hb dX7_look_157 (lv_at hl 4 rfl) ?_
                refine lv_istore (lv' := [(7, .int (nI to)), (6, .int (nI (wv d t z to))), (12, .int (nI (wv d t z to))), (11, .int (nI (wp d (drawT (pushT t to) z) (nxt (nxt z))).1)), (9, .long (b5 (pushT t to))), (8, .int (nI to)), (0, .ref se), (1, .long (b5 t)), (3, .int (nI z)), (4, .int (nI (d + 1)))]) hx hb dX7_look_159 hl (by decide) rfl (fun ls hl => ?_)
                refine lv_iinc (v := (nI (to + 1))) (lv' := [(8, .int ((nI (to + 1)))), (7, .int (nI to)), (6, .int (nI (wv d t z to))), (12, .int (nI (wv d t z to))), (11, .int (nI (wp d (drawT (pushT t to) z) (nxt (nxt z))).1)), (9, .long (b5 (pushT t to))), (0, .ref se), (1, .long (b5 t)), (3, .int (nI z)), (4, .int (nI (d + 1)))]) hx hb dX7_look_161 hl (k := 5) rfl (nI_1 to) (by decide) rfl (fun ls hl => ?_)
                refine lv_goto (tgt := 78) hx hb dX7_look_164 (by decide) ?_
                have hg1 : goN t to = true := by
                  cases hq : goN t to with
                  | true => rfl
                  | false => exact absurd (m_cmp.mpr (hgn.mpr hq)) c3
                have hbe := bestF_n hg1 (Or.inr ((nI_ltI (by omega) (by omega)).mp (Int32.not_le.mp c8)))
                refine ihk (to + 1) fr_ p2 (by omega) ?_ ?_ ?_ (hfr.tr hfr2) H locs hH hS ls ?_
                · rw [foldS_n hg1]; exact hC2
                · rw [foldS_n hg1]; exact hse2
                · rw [foldS_n hg1]; exact hok2
                · rw [hbe]; exact lv_sub hl [0, 1, 2, 6, 7, 8, 9] rfl
    obtain ⟨hc, -⟩ := id hC
    refine lv_iload hx hb dX7_look_0 (lv_at hl 3 rfl) ?_
    refine lv_if_gt (tgt := 7) hx hb dX7_look_2 (by decide) (fun _ => ?_) (fun c1 => absurd (nI_lt (a := 0) (by omega) (by omega)) c1)
    refine lv_aload_n hx hb dX7_look_7 rfl (lv_at hl 0 rfl) ?_
    refine gf_X7_286 hx hb hts hown hK hH hse rfl dX7_look_8 ?_
    refine lv_lload_n hx hb dX7_look_11 rfl (lv_at hl 1 rfl) ?_
    refine lv_iload_n hx hb dX7_look_12 rfl (lv_at hl 2 rfl) ?_
    refine lv_iload hx hb dX7_look_13 (lv_at hl 3 rfl) ?_
    refine hm_callV (rest := []) (k := 2) q3_183 q3_184 q1_5 q3_186 q3_185 rfl nm_X1_find rfl hx hb hml hown hts hK hO hS hH hl.1 hc (c_X1_find Γ l (b5 t) (nI z) (nI (d + 1)) c0 sl n en S.1 S.2.1 rm S.2.2.1 f hC hn) ⟨by show _ ≤ 10 * (8 + (d + 1)); omega, by show _ ≤ 200 * (8 + (d + 1)); omega⟩ ⟨Nat.le_of_ble_eq_true rfl, Nat.le_of_ble_eq_true rfl⟩ rfl (Nat.le_of_ble_eq_true rfl) dX7_look_15 (fun v_ f_ H locs hp_ hH hS => ?_)
    obtain ⟨hp_, ef_⟩ := hp_
    rw [ef_] at hH
    clear ef_
    rcases hp_ with ⟨rfl, hno⟩ | ⟨i, hi, hpi, hj, rfl⟩
    · refine W.eq (g2 := F0 m 18 ls [.null]) rfl ?_
      refine lv_astoreN (lv' := [(5, .null), (0, .ref se), (1, .long (b5 t)), (3, .int (nI z)), (4, .int (nI (d + 1)))]) hx hb dX7_look_18 hl (by decide) rfl (fun ls hl => ?_)
      refine lv_aloadN hx hb dX7_look_20 (lv_at hl 0 rfl) ?_
      refine lv_ifnullN (tgt := 59) hx hb dX7_look_22 (by decide) ?_
      refine lv_aload_n hx hb dX7_look_59 rfl (lv_at hl 1 rfl) ?_
      refine lv_dup hx hb dX7_look_60 rfl ?_
      refine gf_X7_298 hx hb hts hown hK hH hse rfl dX7_look_61 ?_
      refine lv_iconst (v := 1) hx hb dX7_look_64 (by decide) ?_
      refine lv_iadd hx hb dX7_look_65 ?_
      refine lv_topi (fun v2 ev2 => ?_)
      refine pf_X7_298 hx hb hts hown hK hO hS hH hse rfl (Nat.le_of_ble_eq_true rfl) rfl dX7_look_66 (fun H locs hH hS => ?_)
      obtain ⟨f3, ef3⟩ : ∃ zz_, zz_ = hm_up f se (eR 5 [.ref c0, .int S.2.2.2.1, .int v2, .int pu]) := ⟨_, rfl⟩
      have hH : hm_H Γ f3 H := by rw [ef3]; exact hH
      have h4 : f3 se = some (eR 5 [.ref c0, .int S.2.2.2.1, .int v2, .int pu]) := by rw [ef3]; exact hm_us
      have h5 : f3 c0 = some (eR 1 [.ref sl, .int S.2.1, .int rm, .int S.2.2.1]) := by rw [ef3]; exact (hm_un (hm_ne hc hse (fun q => by injection q with q; injection q with q; cases q))).trans hc
      refine lv_iconst (v := 0) hx hb dX7_look_69 (by decide) ?_
      refine lv_istore (lv' := [(6, .int 0), (5, .null), (0, .ref se), (1, .long (b5 t)), (3, .int (nI z)), (4, .int (nI (d + 1)))]) hx hb dX7_look_70 hl (by decide) rfl (fun ls hl => ?_)
      refine lv_iconst (v := (-1)) hx hb dX7_look_72 (by decide) ?_
      refine lv_istore (lv' := [(7, .int ((-1))), (6, .int 0), (5, .null), (0, .ref se), (1, .long (b5 t)), (3, .int (nI z)), (4, .int (nI (d + 1)))]) hx hb dX7_look_73 hl (by decide) rfl (fun ls hl => ?_)
      refine lv_iconst (v := 0) hx hb dX7_look_75 (by decide) ?_
      refine lv_istore (lv' := [(8, .int 0), (7, .int ((-1))), (6, .int 0), (5, .null), (0, .ref se), (1, .long (b5 t)), (3, .int (nI z)), (4, .int (nI (d + 1)))]) hx hb dX7_look_76 hl (by decide) rfl (fun ls hl => ?_)
      subst ef3
      subst ev2
      exact loop hno 4 0 _ pu (by omega) (hC.kept (S := fun q => q = se) (hm_fr.rf.up rfl) (Ne.symm hsc) (by obtain ⟨g_, hg_, -⟩ := hC.2.1; exact hm_ne hg_ hse (fun q => by cases q)) (fun i hi => Ne.symm (hsn i hi))) hm_us hok (hm_fr.rf.up (Or.inl rfl)) H locs hH hS ls (lv_sub hl [0, 1, 2, 4, 5, 6, 7] rfl)
    · refine W.eq (g2 := F0 m 18 ls [.ref (en i)]) rfl ?_
      refine lv_astore (lv' := [(5, .ref (en i)), (0, .ref se), (1, .long (b5 t)), (3, .int (nI z)), (4, .int (nI (d + 1)))]) hx hb dX7_look_18 hl (by decide) rfl (fun ls hl => ?_)
      refine lv_aload hx hb dX7_look_20 (lv_at hl 0 rfl) ?_
      refine lv_ifnull hx hb dX7_look_22 ?_
      refine lv_aload_n hx hb dX7_look_25 rfl (lv_at hl 1 rfl) ?_
      refine gf_X7_286 hx hb hts hown hK hH hse rfl dX7_look_26 ?_
      refine lv_aload hx hb dX7_look_29 (lv_at hl 0 rfl) ?_
      refine hm_callV (rest := []) (k := 1) q3_191 q3_192 q1_5 q3_194 q3_193 rfl nm_X1_use rfl hx hb hml hown hts hK hO hS hH hl.1 hc (c_X1_use Γ l c0 sl (en i) S.2.1 rm S.2.2.1 (S.1 i) f hc (hC.2.2.1 i hi)) ⟨by show _ ≤ 10 * (8 + (d + 1)); omega, by show _ ≤ 200 * (8 + (d + 1)); omega⟩ ⟨Nat.le_of_ble_eq_true rfl, Nat.le_of_ble_eq_true rfl⟩ rfl (Nat.le_of_ble_eq_true rfl) dX7_look_31 (fun v_ f_ H locs hp_ hH hS => ?_)
      obtain ⟨rfl, ef_⟩ := hp_
      refine W.eq (g2 := F0 m 34 ls []) rfl ?_
      have hsu : f_ se = some (eR 5 [.ref c0, .int S.2.2.2.1, .int S.2.2.2.2, .int pu]) := by rw [ef_]; exact (hm_un (hsn i hi)).trans ((hm_un hsc).trans hse)
      have hcu : f_ c0 = some (eR 1 [.ref sl, .int S.2.1, .int rm, .int (S.2.2.1 + 1)]) := by rw [ef_]; exact (hm_un (Ne.symm (hC.ne1 hi))).trans hm_us
      have heu : f_ (en i) = some (ev (setU (S.1 i) (S.2.2.1 + 1))) := by rw [ef_]; exact hm_us
      have hCu : CA Γ f_ c0 sl n en (useS i S).1 (useS i S).2.1 rm (useS i S).2.2.1 := by rw [ef_]; exact (hC.hd _ _ _).ent hi _
      have hfu : hm_fr (sS se c0 n en) f f_ := by rw [ef_]; exact (hm_fr.rf.up (Or.inr (Or.inl rfl))).up (Or.inr (Or.inr ⟨i, hi, rfl⟩))
      have hev := eok_for (hok i hi) hpi (by omega) hd4 hz hw0
      refine lv_aload_n hx hb dX7_look_34 rfl (lv_at hl 1 rfl) ?_
      refine lv_dup hx hb dX7_look_35 rfl ?_
      refine gf_X7_295 hx hb hts hown hK hH hsu rfl dX7_look_36 ?_
      refine lv_iconst (v := 1) hx hb dX7_look_39 (by decide) ?_
      refine lv_iadd hx hb dX7_look_40 ?_
      refine lv_topi (fun v6 ev6 => ?_)
      refine pf_X7_295 hx hb hts hown hK hO hS hH hsu rfl (Nat.le_of_ble_eq_true rfl) rfl dX7_look_41 (fun H locs hH hS => ?_)
      obtain ⟨f7, ef7⟩ : ∃ zz_, zz_ = hm_up f_ se (eR 5 [.ref c0, .int v6, .int S.2.2.2.2, .int pu]) := ⟨_, rfl⟩
      have hH : hm_H Γ f7 H := by rw [ef7]; exact hH
      have h8 : f7 se = some (eR 5 [.ref c0, .int v6, .int S.2.2.2.2, .int pu]) := by rw [ef7]; exact hm_us
      have h9 : f7 c0 = some (eR 1 [.ref sl, .int S.2.1, .int rm, .int ((S.2.2.1 + 1))]) := by rw [ef7]; exact (hm_un (hm_ne hcu hsu (fun q => by injection q with q; injection q with q; cases q))).trans hcu
      have h10 : f7 (en i) = some (eR 2 [.long ((setU (S.1 i) (S.2.2.1 + 1)).1), .int ((setU (S.1 i) (S.2.2.1 + 1)).2.1), .int ((setU (S.1 i) (S.2.2.1 + 1)).2.2.1), .int ((setU (S.1 i) (S.2.2.1 + 1)).2.2.2.1), .int ((setU (S.1 i) (S.2.2.1 + 1)).2.2.2.2.1), .int ((setU (S.1 i) (S.2.2.1 + 1)).2.2.2.2.2.1), .int ((setU (S.1 i) (S.2.2.1 + 1)).2.2.2.2.2.2)]) := by rw [ef7]; exact (hm_un (hm_ne heu hsu (fun q => by injection q with q; injection q with q; cases q))).trans heu
      refine lv_aload_n hx hb dX7_look_44 rfl (lv_at hl 1 rfl) ?_
      refine lv_aload hx hb dX7_look_45 (lv_at hl 0 rfl) ?_
      refine gf_X7_305 hx hb hts hown hK hH h10 rfl dX7_look_47 ?_
      refine pf_X7_185 hx hb hts hown hK hO hS hH h8 rfl (Nat.le_of_ble_eq_true rfl) rfl dX7_look_50 (fun H locs hH hS => ?_)
      obtain ⟨f11, ef11⟩ : ∃ zz_, zz_ = hm_up f7 se (eR 5 [.ref c0, .int v6, .int S.2.2.2.2, .int ((setU (S.1 i) (S.2.2.1 + 1)).2.2.2.2.1)]) := ⟨_, rfl⟩
      have hH : hm_H Γ f11 H := by rw [ef11]; exact hH
      have h12 : f11 se = some (eR 5 [.ref c0, .int v6, .int S.2.2.2.2, .int ((setU (S.1 i) (S.2.2.1 + 1)).2.2.2.2.1)]) := by rw [ef11]; exact hm_us
      have h13 : f11 c0 = some (eR 1 [.ref sl, .int S.2.1, .int rm, .int ((S.2.2.1 + 1))]) := by rw [ef11]; exact (hm_un (hm_ne h9 h8 (fun q => by injection q with q; injection q with q; cases q))).trans h9
      have h14 : f11 (en i) = some (eR 2 [.long ((setU (S.1 i) (S.2.2.1 + 1)).1), .int ((setU (S.1 i) (S.2.2.1 + 1)).2.1), .int ((setU (S.1 i) (S.2.2.1 + 1)).2.2.1), .int ((setU (S.1 i) (S.2.2.1 + 1)).2.2.2.1), .int ((setU (S.1 i) (S.2.2.1 + 1)).2.2.2.2.1), .int ((setU (S.1 i) (S.2.2.1 + 1)).2.2.2.2.2.1), .int ((setU (S.1 i) (S.2.2.1 + 1)).2.2.2.2.2.2)]) := by rw [ef11]; exact (hm_un (hm_ne h10 h8 (fun q => by injection q with q; injection q with q; cases q))).trans h10
      refine lv_aload hx hb dX7_look_53 (lv_at hl 0 rfl) ?_
      refine gf_X7_306 hx hb hts hown hK hH h14 rfl dX7_look_55 ?_
      subst ef11
      subst ef7
      subst ev6
      exact hm_iret hx hb hr hlocks hS hH (⟨congrArg (fun q => some (Value.int q)) hev.1, by rw [trS_hit hi hpi hj]; simp only [hm_uu]; exact hCu.kept (S := fun q => q = se) (hm_fr.rf.up rfl) (Ne.symm hsc) (by obtain ⟨g_, hg_, -⟩ := hCu.2.1; exact hm_ne hg_ hsu (fun q => by cases q)) (fun i hi => Ne.symm (hsn i hi)), ⟨_, by rw [trS_hit hi hpi hj]; exact hm_us, fun _ => hev.2⟩, by rw [trS_hit hi hpi hj]; exact eok_upd hok (eok_setU (hok i hi)), by simp only [hm_uu]; exact hfu.up (Or.inl rfl)⟩) (Nat.le_of_ble_eq_true rfl) (Nat.le_of_ble_eq_true rfl) dX7_look_58
