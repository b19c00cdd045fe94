/-! the model: pushes -/
theorem nu1 {u : Nat → Nat} {c v w : Nat} : updN (updN u c v) c w = updN u c w := by
  funext x
  unfold updN
  split <;> rfl
theorem nu0 {u : Nat → Nat} {c : Nat} (h : u c = 0) : updN u c 0 = u := by
  funext x
  unfold updN
  split
  · rename_i q; rw [q, h]
  · rfl
theorem nuv {u : Nat → Nat} {c v : Nat} : updN u c v c = v := if_pos rfl
theorem nuz {u : Nat → Nat} {c d v : Nat} (hd : d ≠ c) (h : u d = 0) : updN u c v d = 0 := (if_neg hd).trans h
theorem cO_d {to i p q : Nat} (hto : to < 4) (hi : i < 3) (hp : p < 3) (hq : q < 3) (h : p ≠ q) : cO to i p ≠ cO to i q := by
  unfold cO
  split
  · omega
  · split
    · omega
    · split <;> omega
theorem prt_z3 (t : Nat → Nat) {to i p : Nat} (hto : to < 4) (hi : i < 3) (hp : p < 3) : prt t to (3 * i) (cO to i p) = 0 := by
  have h1 := prt_z t hto hi (p := 0) (by decide)
  rcases (by omega : p = 0 ∨ p = 1 ∨ p = 2) with rfl | rfl | rfl
  · exact h1
  · have h := prt_z t hto hi (p := 1) (by decide)
    have e := prt_s t hto hi (p := 0) (by decide)
    rw [← e] at h
    rw [show updN (prt t to (3 * i + 0)) (cO to i 0) (at3 (mg (lineT t to i)) 0) (cO to i 1) = prt t to (3 * i + 0) (cO to i 1) from if_neg (cO_d hto hi (by decide) (by decide) (by decide))] at h
    exact h
  · have h := prt_z t hto hi (p := 2) (by decide)
    have e1 := prt_s t hto hi (p := 1) (by decide)
    have e := prt_s t hto hi (p := 0) (by decide)
    rw [← e1, ← e] at h
    rw [show ∀ u v, updN u (cO to i 1) v (cO to i 2) = u (cO to i 2) from fun u v => if_neg (cO_d hto hi (by decide) (by decide) (by decide)), show ∀ u v, updN u (cO to i 0) v (cO to i 2) = u (cO to i 2) from fun u v => if_neg (cO_d hto hi (by decide) (by decide) (by decide))] at h
    exact h
theorem lin3 {t : Nat → Nat} {to i x y w : Nat} (hto : to < 4) (hi : i < 3) (h : mg (lineT t to i) = (x, y, w)) : prt t to (3 * (i + 1)) = updN (updN (updN (prt t to (3 * i)) (cO to i 0) x) (cO to i 1) y) (cO to i 2) w := by
  have e0 := prt_s t hto hi (p := 0) (by decide)
  have e1 := prt_s t hto hi (p := 1) (by decide)
  have e2 := prt_s t hto hi (p := 2) (by decide)
  rw [h] at e0 e1 e2
  rw [show 3 * (i + 1) = 3 * i + 2 + 1 by omega, ← e2, show 3 * i + 2 = 3 * i + 1 + 1 by omega, ← e1, show 3 * i + 1 = 3 * i + 0 + 1 by omega, ← e0]
  rfl
theorem lin2 {t : Nat → Nat} {to i x y : Nat} (hto : to < 4) (hi : i < 3) (h : mg (lineT t to i) = (x, y, 0)) : prt t to (3 * (i + 1)) = updN (updN (prt t to (3 * i)) (cO to i 0) x) (cO to i 1) y := by
  rw [lin3 hto hi h]
  exact nu0 (nuz (cO_d hto hi (by decide) (by decide) (by decide)) (nuz (cO_d hto hi (by decide) (by decide) (by decide)) (prt_z3 t hto hi (by decide))))
theorem lin1 {t : Nat → Nat} {to i x : Nat} (hto : to < 4) (hi : i < 3) (h : mg (lineT t to i) = (x, 0, 0)) : prt t to (3 * (i + 1)) = updN (prt t to (3 * i)) (cO to i 0) x := by
  rw [lin2 hto hi h]
  exact nu0 (nuz (cO_d hto hi (by decide) (by decide) (by decide)) (prt_z3 t hto hi (by decide)))
theorem lin0 {t : Nat → Nat} {to i : Nat} (hto : to < 4) (hi : i < 3) (h : mg (lineT t to i) = (0, 0, 0)) : prt t to (3 * (i + 1)) = prt t to (3 * i) := by
  rw [lin1 hto hi h]
  exact nu0 (prt_z3 t hto hi (by decide))
set_option maxHeartbeats 4000000 in
set_option maxRecDepth 100000 in
theorem c_X8_pushed (Γ : Gm) (l : Launch) (m0 : Nat) (r : Nat → Nat) (mth mpl mga mtr mke mro mck mli mdz mgd mhi mmi mfh msh msm mso : Int32) (msp mrf : Int64) (t : Nat → Nat) (to : Nat) (f : Hm) (hm0 : f m0 = some (eM r mth mpl mga mtr mke mro mck mli mdz mgd mhi mmi mfh msh msm mso msp mrf)) (ht : tl 15 t) (hto : to < 4) : Ct Γ l yX8_pushed cX8_pushed 11 (some .long) 2 0 0 [.ref m0, .long (b4 t), .int (nI to)] f (fun v f' => v = some (.long (b4 (pushT t to))) ∧ f' = hm_up f m0 (eM r mth mpl mga mtr mke mro mck mli mdz ((nI (gainT t to))) mhi mmi mfh msh msm mso msp mrf)) := by
  refine Ct_of (by decide +kernel) (Nat.le_of_ble_eq_true rfl) ?_
  intro p e s m args below meth c hx hb hr hml hown hin hlocks hts hH hO hK ls hl
  have hl : lv_has ls 11 [(0, .ref m0), (1, .long (b4 t)), (3, .int (nI to))] := hl
  have hS : va_S (gA Γ) s.heap s.heap [] := va_S.rf
  have ht16 : tl 16 t := tl_mono ht (by decide)
  have loop : ∀ (n_ i : Nat), i + n_ = 3 → ∀ (H : Heap) (locs : List Loc), hm_H Γ (hm_up f m0 (eM r mth mpl mga mtr mke mro mck mli mdz ((nI (gsum t to i))) mhi mmi mfh msh msm mso msp mrf)) H → va_S (gA Γ) s.heap H locs → ∀ ls : Array Slot, lv_has ls 11 [(6, .int (nI i)), (4, .long (b4 (prt t to (3 * i)))), (0, .ref m0), (1, .long (b4 t)), (3, .int (nI to))] → W p l e (rmk 2 0 0) s m args below meth c H locs 0 0 (MQ below (hm_Q Γ (fun v f' => v = some (.long (b4 (pushT t to))) ∧ f' = hm_up f m0 (eM r mth mpl mga mtr mke mro mck mli mdz ((nI (gainT t to))) mhi mmi mfh msh msm mso msp mrf))) args s 0 0 (gA Γ)) (F0 m 11 ls []) := by
    intro n_
    induction n_ with
      | zero =>
        intro i hi H locs hH hS ls hl
        have hi3 : i = 3 := by omega
        subst hi3
        refine lv_iload hx hb dX8_pushed_11 (lv_at hl 0 rfl) ?_
        refine lv_iconst (v := 3) hx hb dX8_pushed_13 (by decide) ?_
        refine lv_icmp_ge (tgt := 139) hx hb dX8_pushed_14 (by decide) (fun _ => ?_) (fun c1 => absurd (by decide) c1)
        refine lv_lload hx hb dX8_pushed_139 (lv_at hl 1 rfl) ?_
        exact hm_lret hx hb hr hlocks hS hH (⟨congrArg (fun x => some (Value.long x)) (b4_congr (prt_9 t hto)), by rw [gsum_3]⟩) (Nat.le_of_ble_eq_true rfl) (Nat.le_of_ble_eq_true rfl) dX8_pushed_141
      | succ n_ ih =>
        intro i hi H locs hH hS ls hl
        have hi3 : i < 3 := by omega
        have hz0 := prt_z3 t hto hi3 (p := 0) (by decide)
        have hz1 := prt_z3 t hto hi3 (p := 1) (by decide)
        have hz2 := prt_z3 t hto hi3 (p := 2) (by decide)
        have hk0 : cO to i 0 < 9 := cO_lt to hto i hi3 _ (by decide)
        have hk1 : cO to i 1 < 9 := cO_lt to hto i hi3 _ (by decide)
        have hk2 : cO to i 2 < 9 := cO_lt to hto i hi3 _ (by decide)
        have hn01 : cO to i 0 ≠ cO to i 1 := cO_d hto hi3 (by decide) (by decide) (by decide)
        have hn02 : cO to i 0 ≠ cO to i 2 := cO_d hto hi3 (by decide) (by decide) (by decide)
        have hn10 : cO to i 1 ≠ cO to i 0 := cO_d hto hi3 (by decide) (by decide) (by decide)
        have hn12 : cO to i 1 ≠ cO to i 2 := cO_d hto hi3 (by decide) (by decide) (by decide)
        have hn20 : cO to i 2 ≠ cO to i 0 := cO_d hto hi3 (by decide) (by decide) (by decide)
        have hn21 : cO to i 2 ≠ cO to i 1 := cO_d hto hi3 (by decide) (by decide) (by decide)
        have hb0 := ht (cO to i 0) hk0
        have hb1 := ht (cO to i 1) hk1
        have hb2 := ht (cO to i 2) hk2
        obtain ⟨fi, efi⟩ : ∃ zz_, zz_ = (hm_up f m0 (eM r mth mpl mga mtr mke mro mck mli mdz ((nI (gsum t to i))) mhi mmi mfh msh msm mso msp mrf)) := ⟨_, rfl⟩
        rw [← efi] at hH
        have hmi : fi m0 = some (eM r mth mpl mga mtr mke mro mck mli mdz ((nI (gsum t to i))) mhi mmi mfh msh msm mso msp mrf) := by rw [efi]; exact hm_us
        refine lv_iload hx hb dX8_pushed_11 (lv_at hl 0 rfl) ?_
        refine lv_iconst (v := 3) hx hb dX8_pushed_13 (by decide) ?_
        refine lv_icmp_ge (tgt := 139) hx hb dX8_pushed_14 (by decide) (fun c1 => absurd c1 (nI_ge (a := i) (b := 3) hi3 (by decide))) (fun _ => ?_)
        refine lv_iconst (v := 0) hx hb dX8_pushed_17 (by decide) ?_
        refine lv_istore (lv' := [(7, .int 0), (6, .int (nI i)), (4, .long (b4 (prt t to (3 * i)))), (0, .ref m0), (1, .long (b4 t)), (3, .int (nI to))]) hx hb dX8_pushed_18 hl (by decide) rfl (fun ls hl => ?_)
        refine lv_iconst (v := 0) hx hb dX8_pushed_20 (by decide) ?_
        refine lv_istore (lv' := [(8, .int 0), (7, .int 0), (6, .int (nI i)), (4, .long (b4 (prt t to (3 * i)))), (0, .ref m0), (1, .long (b4 t)), (3, .int (nI to))]) hx hb dX8_pushed_21 hl (by decide) rfl (fun ls hl => ?_)
        refine lv_iconst (v := 0) hx hb dX8_pushed_23 (by decide) ?_
        refine lv_istore (lv' := [(9, .int 0), (8, .int 0), (7, .int 0), (6, .int (nI i)), (4, .long (b4 (prt t to (3 * i)))), (0, .ref m0), (1, .long (b4 t)), (3, .int (nI to))]) hx hb dX8_pushed_24 hl (by decide) rfl (fun ls hl => ?_)
        refine lv_iload hx hb dX8_pushed_26 (lv_at hl 0 rfl) ?_
        refine lv_iconst (v := 3) hx hb dX8_pushed_28 (by decide) ?_
        refine lv_icmp_ge (tgt := 133) hx hb dX8_pushed_29 (by decide) (fun c2 => absurd c2 (by decide)) (fun _ => ?_)
        refine lv_lload_n hx hb dX8_pushed_32 rfl (lv_at hl 6 rfl) ?_
        refine lv_iload_n hx hb dX8_pushed_33 rfl (lv_at hl 7 rfl) ?_
        refine lv_iload hx hb dX8_pushed_34 (lv_at hl 3 rfl) ?_
        refine lv_iload hx hb dX8_pushed_36 (lv_at hl 0 rfl) ?_
        refine hm_callS (rest := [.long (b4 t)]) (k := 1) q5_158 q5_159 q1_9 q5_160 nm_X8_cellOf rfl hx hb hml hown hts hK hO hS hH hl.1 (c_X8_cellOf Γ l to i 0 fi hto hi3 (by decide)) ⟨Nat.le_of_ble_eq_true rfl, Nat.le_of_ble_eq_true rfl⟩ ⟨Nat.le_of_ble_eq_true rfl, Nat.le_of_ble_eq_true rfl⟩ rfl (Nat.le_of_ble_eq_true rfl) dX8_pushed_38 (fun v_ f_ H locs hp_ hH hS => ?_)
        obtain ⟨rfl, ef_⟩ := hp_
        rw [ef_] at hH
        clear ef_
        refine W.eq (g2 := F0 m 41 ls [.int (nI (cO to i 0)), .long (b4 t)]) rfl ?_
        refine hm_callS (rest := []) (k := 1) q5_131 q5_132 q1_9 q5_133 nm_X8_tile rfl hx hb hml hown hts hK hO hS hH hl.1 (c_X8_tile Γ l t (cO to i 0) fi ht16 hk0) ⟨Nat.le_of_ble_eq_true rfl, Nat.le_of_ble_eq_true rfl⟩ ⟨Nat.le_of_ble_eq_true rfl, Nat.le_of_ble_eq_true rfl⟩ rfl (Nat.le_of_ble_eq_true rfl) dX8_pushed_41 (fun v_ f_ H locs hp_ hH hS => ?_)
        obtain ⟨rfl, ef_⟩ := hp_
        rw [ef_] at hH
        clear ef_
        refine W.eq (g2 := F0 m 44 ls [.int (nI (t (cO to i 0)))]) rfl ?_
        refine lv_istore (lv' := [(10, .int (nI (t (cO to i 0)))), (9, .int 0), (8, .int 0), (7, .int 0), (6, .int (nI i)), (4, .long (b4 (prt t to (3 * i)))), (0, .ref m0), (1, .long (b4 t)), (3, .int (nI to))]) hx hb dX8_pushed_44 hl (by decide) rfl (fun ls hl => ?_)
        refine lv_iload hx hb dX8_pushed_46 (lv_at hl 0 rfl) ?_
        refine lv_if_ne (tgt := 54) hx hb dX8_pushed_48 (by decide) (fun c3 => ?_) (fun c3 => ?_)
        · refine lv_iload hx hb dX8_pushed_54 (lv_at hl 0 rfl) ?_
          refine lv_iload hx hb dX8_pushed_56 (lv_at hl 2 rfl) ?_
          refine lv_icmp_ne (tgt := 101) hx hb dX8_pushed_58 (by decide) (fun _ => ?_) (fun c4 => absurd c4 (c3))
          refine lv_lload hx hb dX8_pushed_101 (lv_at hl 5 rfl) ?_
          refine lv_iload hx hb dX8_pushed_103 (lv_at hl 0 rfl) ?_
          refine lv_i2l hx hb dX8_pushed_105 rfl ?_
          refine lv_topl (fun v5 ev5 => ?_)
          replace ev5 : v5 = lN (t (cO to i 0)) := ev5.trans (nI_l (by omega))
          subst ev5
          refine lv_iconst (v := 4) hx hb dX8_pushed_106 (by decide) ?_
          refine lv_iload_n hx hb dX8_pushed_107 rfl (lv_at hl 8 rfl) ?_
          refine lv_iload hx hb dX8_pushed_108 (lv_at hl 4 rfl) ?_
          refine lv_iload hx hb dX8_pushed_110 (lv_at hl 3 rfl) ?_
          refine hm_callS (rest := [.int 4, .long (lN (t (cO to i 0))), .long (b4 (prt t to (3 * i)))]) (k := 1) q5_158 q5_159 q1_9 q5_160 nm_X8_cellOf rfl hx hb hml hown hts hK hO hS hH hl.1 (c_X8_cellOf Γ l to i 0 fi hto hi3 (by decide)) ⟨Nat.le_of_ble_eq_true rfl, Nat.le_of_ble_eq_true rfl⟩ ⟨Nat.le_of_ble_eq_true rfl, Nat.le_of_ble_eq_true rfl⟩ rfl (Nat.le_of_ble_eq_true rfl) dX8_pushed_112 (fun v_ f_ H locs hp_ hH hS => ?_)
          obtain ⟨rfl, ef_⟩ := hp_
          rw [ef_] at hH
          clear ef_
          refine W.eq (g2 := F0 m 115 ls [.int (nI (cO to i 0)), .int 4, .long (lN (t (cO to i 0))), .long (b4 (prt t to (3 * i)))]) rfl ?_
          refine lv_imul hx hb dX8_pushed_115 ?_
          refine lv_topi (fun v6 ev6 => ?_)
          replace ev6 : v6 = (4 * (nI (cO to i 0))) := ev6.trans (rfl)
          subst ev6
          refine lv_lshl hx hb dX8_pushed_116 rfl ?_
          refine lv_topl (fun v7 ev7 => ?_)
          replace ev7 : v7 = ((lN (t (cO to i 0))) <<< (((4 * (nI (cO to i 0)))).toInt64 &&& 63)) := ev7.trans (rfl)
          subst ev7
          refine lv_ladd hx hb dX8_pushed_117 ?_
          refine lv_topl (fun v8 ev8 => ?_)
          replace ev8 : v8 = b4 (updN (prt t to (3 * i)) (cO to i 0) (t (cO to i 0))) := ev8.trans (b4_add hk0 hz0)
          subst ev8
          refine lv_lstore (lv' := [(4, .long (b4 (updN (prt t to (3 * i)) (cO to i 0) (t (cO to i 0))))), (10, .int (nI (t (cO to i 0)))), (9, .int 0), (8, .int 0), (7, .int 0), (6, .int (nI i)), (0, .ref m0), (1, .long (b4 t)), (3, .int (nI to))]) hx hb dX8_pushed_118 hl (by decide) rfl (fun ls hl => ?_)
          refine lv_iload hx hb dX8_pushed_120 (lv_at hl 1 rfl) ?_
          refine lv_istore (lv' := [(8, .int (nI (t (cO to i 0)))), (4, .long (b4 (updN (prt t to (3 * i)) (cO to i 0) (t (cO to i 0))))), (10, .int (nI (t (cO to i 0)))), (9, .int 0), (7, .int 0), (6, .int (nI i)), (0, .ref m0), (1, .long (b4 t)), (3, .int (nI to))]) hx hb dX8_pushed_122 hl (by decide) rfl (fun ls hl => ?_)
          refine lv_iinc (v := 1) (lv' := [(7, .int 1), (8, .int (nI (t (cO to i 0)))), (4, .long (b4 (updN (prt t to (3 * i)) (cO to i 0) (t (cO to i 0))))), (10, .int (nI (t (cO to i 0)))), (9, .int 0), (6, .int (nI i)), (0, .ref m0), (1, .long (b4 t)), (3, .int (nI to))]) hx hb dX8_pushed_124 hl (k := 4) rfl (by decide) (by decide) rfl (fun ls hl => ?_)
          refine lv_iinc (v := 1) (lv' := [(9, .int 1), (7, .int 1), (8, .int (nI (t (cO to i 0)))), (4, .long (b4 (updN (prt t to (3 * i)) (cO to i 0) (t (cO to i 0))))), (10, .int (nI (t (cO to i 0)))), (6, .int (nI i)), (0, .ref m0), (1, .long (b4 t)), (3, .int (nI to))]) hx hb dX8_pushed_127 hl (k := 4) rfl (by decide) (by decide) rfl (fun ls hl => ?_)
          refine lv_goto (tgt := 26) hx hb dX8_pushed_130 (by decide) ?_
          refine lv_iload hx hb dX8_pushed_26 (lv_at hl 0 rfl) ?_
          refine lv_iconst (v := 3) hx hb dX8_pushed_28 (by decide) ?_
          refine lv_icmp_ge (tgt := 133) hx hb dX8_pushed_29 (by decide) (fun c9 => absurd c9 (by decide)) (fun _ => ?_)
          refine lv_lload_n hx hb dX8_pushed_32 rfl (lv_at hl 7 rfl) ?_
          refine lv_iload_n hx hb dX8_pushed_33 rfl (lv_at hl 8 rfl) ?_
          refine lv_iload hx hb dX8_pushed_34 (lv_at hl 5 rfl) ?_
          refine lv_iload hx hb dX8_pushed_36 (lv_at hl 0 rfl) ?_
          refine hm_callS (rest := [.long (b4 t)]) (k := 1) q5_158 q5_159 q1_9 q5_160 nm_X8_cellOf rfl hx hb hml hown hts hK hO hS hH hl.1 (c_X8_cellOf Γ l to i 1 fi hto hi3 (by decide)) ⟨Nat.le_of_ble_eq_true rfl, Nat.le_of_ble_eq_true rfl⟩ ⟨Nat.le_of_ble_eq_true rfl, Nat.le_of_ble_eq_true rfl⟩ rfl (Nat.le_of_ble_eq_true rfl) dX8_pushed_38 (fun v_ f_ H locs hp_ hH hS => ?_)
          obtain ⟨rfl, ef_⟩ := hp_
          rw [ef_] at hH
          clear ef_
          refine W.eq (g2 := F0 m 41 ls [.int (nI (cO to i 1)), .long (b4 t)]) rfl ?_
          refine hm_callS (rest := []) (k := 1) q5_131 q5_132 q1_9 q5_133 nm_X8_tile rfl hx hb hml hown hts hK hO hS hH hl.1 (c_X8_tile Γ l t (cO to i 1) fi ht16 hk1) ⟨Nat.le_of_ble_eq_true rfl, Nat.le_of_ble_eq_true rfl⟩ ⟨Nat.le_of_ble_eq_true rfl, Nat.le_of_ble_eq_true rfl⟩ rfl (Nat.le_of_ble_eq_true rfl) dX8_pushed_41 (fun v_ f_ H locs hp_ hH hS => ?_)
          obtain ⟨rfl, ef_⟩ := hp_
          rw [ef_] at hH
          clear ef_
          refine W.eq (g2 := F0 m 44 ls [.int (nI (t (cO to i 1)))]) rfl ?_
          refine lv_istore (lv' := [(10, .int (nI (t (cO to i 1)))), (9, .int 1), (7, .int 1), (8, .int (nI (t (cO to i 0)))), (4, .long (b4 (updN (prt t to (3 * i)) (cO to i 0) (t (cO to i 0))))), (6, .int (nI i)), (0, .ref m0), (1, .long (b4 t)), (3, .int (nI to))]) hx hb dX8_pushed_44 hl (by decide) rfl (fun ls hl => ?_)
          refine lv_iload hx hb dX8_pushed_46 (lv_at hl 0 rfl) ?_
          refine lv_if_ne (tgt := 54) hx hb dX8_pushed_48 (by decide) (fun c10 => ?_) (fun c10 => ?_)
          · refine lv_iload hx hb dX8_pushed_54 (lv_at hl 0 rfl) ?_
            refine lv_iload hx hb dX8_pushed_56 (lv_at hl 3 rfl) ?_
            refine lv_icmp_ne (tgt := 101) hx hb dX8_pushed_58 (by decide) (fun c11 => ?_) (fun c11 => ?_)
            · refine lv_lload hx hb dX8_pushed_101 (lv_at hl 4 rfl) ?_
              refine lv_iload hx hb dX8_pushed_103 (lv_at hl 0 rfl) ?_
              refine lv_i2l hx hb dX8_pushed_105 rfl ?_
              refine lv_topl (fun v12 ev12 => ?_)
              replace ev12 : v12 = lN (t (cO to i 1)) := ev12.trans (nI_l (by omega))
              subst ev12
              refine lv_iconst (v := 4) hx hb dX8_pushed_106 (by decide) ?_
              refine lv_iload_n hx hb dX8_pushed_107 rfl (lv_at hl 8 rfl) ?_
              refine lv_iload hx hb dX8_pushed_108 (lv_at hl 5 rfl) ?_
              refine lv_iload hx hb dX8_pushed_110 (lv_at hl 2 rfl) ?_
              refine hm_callS (rest := [.int 4, .long (lN (t (cO to i 1))), .long (b4 (updN (prt t to (3 * i)) (cO to i 0) (t (cO to i 0))))]) (k := 1) q5_158 q5_159 q1_9 q5_160 nm_X8_cellOf rfl hx hb hml hown hts hK hO hS hH hl.1 (c_X8_cellOf Γ l to i 1 fi hto hi3 (by decide)) ⟨Nat.le_of_ble_eq_true rfl, Nat.le_of_ble_eq_true rfl⟩ ⟨Nat.le_of_ble_eq_true rfl, Nat.le_of_ble_eq_true rfl⟩ rfl (Nat.le_of_ble_eq_true rfl) dX8_pushed_112 (fun v_ f_ H locs hp_ hH hS => ?_)
              obtain ⟨rfl, ef_⟩ := hp_
              rw [ef_] at hH
              clear ef_
              refine W.eq (g2 := F0 m 115 ls [.int (nI (cO to i 1)), .int 4, .long (lN (t (cO to i 1))), .long (b4 (updN (prt t to (3 * i)) (cO to i 0) (t (cO to i 0))))]) rfl ?_
              refine lv_imul hx hb dX8_pushed_115 ?_
              refine lv_topi (fun v13 ev13 => ?_)
              replace ev13 : v13 = (4 * (nI (cO to i 1))) := ev13.trans (rfl)
              subst ev13
              refine lv_lshl hx hb dX8_pushed_116 rfl ?_
              refine lv_topl (fun v14 ev14 => ?_)
              replace ev14 : v14 = ((lN (t (cO to i 1))) <<< (((4 * (nI (cO to i 1)))).toInt64 &&& 63)) := ev14.trans (rfl)
              subst ev14
              refine lv_ladd hx hb dX8_pushed_117 ?_
              refine lv_topl (fun v15 ev15 => ?_)
              replace ev15 : v15 = b4 (updN (updN (prt t to (3 * i)) (cO to i 0) (t (cO to i 0))) (cO to i 1) (t (cO to i 1))) := ev15.trans (b4_add hk1 (nuz hn10 hz1))
              subst ev15
              refine lv_lstore (lv' := [(4, .long (b4 (updN (updN (prt t to (3 * i)) (cO to i 0) (t (cO to i 0))) (cO to i 1) (t (cO to i 1))))), (10, .int (nI (t (cO to i 1)))), (9, .int 1), (7, .int 1), (8, .int (nI (t (cO to i 0)))), (6, .int (nI i)), (0, .ref m0), (1, .long (b4 t)), (3, .int (nI to))]) hx hb dX8_pushed_118 hl (by decide) rfl (fun ls hl => ?_)
              refine lv_iload hx hb dX8_pushed_120 (lv_at hl 1 rfl) ?_
              refine lv_istore (lv' := [(8, .int (nI (t (cO to i 1)))), (4, .long (b4 (updN (updN (prt t to (3 * i)) (cO to i 0) (t (cO to i 0))) (cO to i 1) (t (cO to i 1))))), (10, .int (nI (t (cO to i 1)))), (9, .int 1), (7, .int 1), (6, .int (nI i)), (0, .ref m0), (1, .long (b4 t)), (3, .int (nI to))]) hx hb dX8_pushed_122 hl (by decide) rfl (fun ls hl => ?_)
              refine lv_iinc (v := 2) (lv' := [(7, .int 2), (8, .int (nI (t (cO to i 1)))), (4, .long (b4 (updN (updN (prt t to (3 * i)) (cO to i 0) (t (cO to i 0))) (cO to i 1) (t (cO to i 1))))), (10, .int (nI (t (cO to i 1)))), (9, .int 1), (6, .int (nI i)), (0, .ref m0), (1, .long (b4 t)), (3, .int (nI to))]) hx hb dX8_pushed_124 hl (k := 4) rfl (by decide) (by decide) rfl (fun ls hl => ?_)
              refine lv_iinc (v := 2) (lv' := [(9, .int 2), (7, .int 2), (8, .int (nI (t (cO to i 1)))), (4, .long (b4 (updN (updN (prt t to (3 * i)) (cO to i 0) (t (cO to i 0))) (cO to i 1) (t (cO to i 1))))), (10, .int (nI (t (cO to i 1)))), (6, .int (nI i)), (0, .ref m0), (1, .long (b4 t)), (3, .int (nI to))]) hx hb dX8_pushed_127 hl (k := 4) rfl (by decide) (by decide) rfl (fun ls hl => ?_)
              refine lv_goto (tgt := 26) hx hb dX8_pushed_130 (by decide) ?_
              refine lv_iload hx hb dX8_pushed_26 (lv_at hl 0 rfl) ?_
              refine lv_iconst (v := 3) hx hb dX8_pushed_28 (by decide) ?_
              refine lv_icmp_ge (tgt := 133) hx hb dX8_pushed_29 (by decide) (fun c16 => absurd c16 (by decide)) (fun _ => ?_)
              refine lv_lload_n hx hb dX8_pushed_32 rfl (lv_at hl 7 rfl) ?_
              refine lv_iload_n hx hb dX8_pushed_33 rfl (lv_at hl 8 rfl) ?_
              refine lv_iload hx hb dX8_pushed_34 (lv_at hl 5 rfl) ?_
              refine lv_iload hx hb dX8_pushed_36 (lv_at hl 0 rfl) ?_
              refine hm_callS (rest := [.long (b4 t)]) (k := 1) q5_158 q5_159 q1_9 q5_160 nm_X8_cellOf rfl hx hb hml hown hts hK hO hS hH hl.1 (c_X8_cellOf Γ l to i 2 fi hto hi3 (by decide)) ⟨Nat.le_of_ble_eq_true rfl, Nat.le_of_ble_eq_true rfl⟩ ⟨Nat.le_of_ble_eq_true rfl, Nat.le_of_ble_eq_true rfl⟩ rfl (Nat.le_of_ble_eq_true rfl) dX8_pushed_38 (fun v_ f_ H locs hp_ hH hS => ?_)
              obtain ⟨rfl, ef_⟩ := hp_
              rw [ef_] at hH
              clear ef_
              refine W.eq (g2 := F0 m 41 ls [.int (nI (cO to i 2)), .long (b4 t)]) rfl ?_
              refine hm_callS (rest := []) (k := 1) q5_131 q5_132 q1_9 q5_133 nm_X8_tile rfl hx hb hml hown hts hK hO hS hH hl.1 (c_X8_tile Γ l t (cO to i 2) fi ht16 hk2) ⟨Nat.le_of_ble_eq_true rfl, Nat.le_of_ble_eq_true rfl⟩ ⟨Nat.le_of_ble_eq_true rfl, Nat.le_of_ble_eq_true rfl⟩ rfl (Nat.le_of_ble_eq_true rfl) dX8_pushed_41 (fun v_ f_ H locs hp_ hH hS => ?_)
              obtain ⟨rfl, ef_⟩ := hp_
              rw [ef_] at hH
              clear ef_
              refine W.eq (g2 := F0 m 44 ls [.int (nI (t (cO to i 2)))]) rfl ?_
              refine lv_istore (lv' := [(10, .int (nI (t (cO to i 2)))), (9, .int 2), (7, .int 2), (8, .int (nI (t (cO to i 1)))), (4, .long (b4 (updN (updN (prt t to (3 * i)) (cO to i 0) (t (cO to i 0))) (cO to i 1) (t (cO to i 1))))), (6, .int (nI i)), (0, .ref m0), (1, .long (b4 t)), (3, .int (nI to))]) hx hb dX8_pushed_44 hl (by decide) rfl (fun ls hl => ?_)
              refine lv_iload hx hb dX8_pushed_46 (lv_at hl 0 rfl) ?_
              refine lv_if_ne (tgt := 54) hx hb dX8_pushed_48 (by decide) (fun c17 => ?_) (fun c17 => ?_)
              · refine lv_iload hx hb dX8_pushed_54 (lv_at hl 0 rfl) ?_
                refine lv_iload hx hb dX8_pushed_56 (lv_at hl 3 rfl) ?_
                refine lv_icmp_ne (tgt := 101) hx hb dX8_pushed_58 (by decide) (fun c18 => ?_) (fun c18 => ?_)
                · refine lv_lload hx hb dX8_pushed_101 (lv_at hl 4 rfl) ?_
                  refine lv_iload hx hb dX8_pushed_103 (lv_at hl 0 rfl) ?_
                  refine lv_i2l hx hb dX8_pushed_105 rfl ?_
                  refine lv_topl (fun v19 ev19 => ?_)
                  replace ev19 : v19 = lN (t (cO to i 2)) := ev19.trans (nI_l (by omega))
                  subst ev19
                  refine lv_iconst (v := 4) hx hb dX8_pushed_106 (by decide) ?_
                  refine lv_iload_n hx hb dX8_pushed_107 rfl (lv_at hl 8 rfl) ?_
                  refine lv_iload hx hb dX8_pushed_108 (lv_at hl 5 rfl) ?_
                  refine lv_iload hx hb dX8_pushed_110 (lv_at hl 2 rfl) ?_
                  refine hm_callS (rest := [.int 4, .long (lN (t (cO to i 2))), .long (b4 (updN (updN (prt t to (3 * i)) (cO to i 0) (t (cO to i 0))) (cO to i 1) (t (cO to i 1))))]) (k := 1) q5_158 q5_159 q1_9 q5_160 nm_X8_cellOf rfl hx hb hml hown hts hK hO hS hH hl.1 (c_X8_cellOf Γ l to i 2 fi hto hi3 (by decide)) ⟨Nat.le_of_ble_eq_true rfl, Nat.le_of_ble_eq_true rfl⟩ ⟨Nat.le_of_ble_eq_true rfl, Nat.le_of_ble_eq_true rfl⟩ rfl (Nat.le_of_ble_eq_true rfl) dX8_pushed_112 (fun v_ f_ H locs hp_ hH hS => ?_)
                  obtain ⟨rfl, ef_⟩ := hp_
                  rw [ef_] at hH
                  clear ef_
                  refine W.eq (g2 := F0 m 115 ls [.int (nI (cO to i 2)), .int 4, .long (lN (t (cO to i 2))), .long (b4 (updN (updN (prt t to (3 * i)) (cO to i 0) (t (cO to i 0))) (cO to i 1) (t (cO to i 1))))]) rfl ?_
                  refine lv_imul hx hb dX8_pushed_115 ?_
                  refine lv_topi (fun v20 ev20 => ?_)
                  replace ev20 : v20 = (4 * (nI (cO to i 2))) := ev20.trans (rfl)
                  subst ev20
                  refine lv_lshl hx hb dX8_pushed_116 rfl ?_
                  refine lv_topl (fun v21 ev21 => ?_)
                  replace ev21 : v21 = ((lN (t (cO to i 2))) <<< (((4 * (nI (cO to i 2)))).toInt64 &&& 63)) := ev21.trans (rfl)
                  subst ev21
                  refine lv_ladd hx hb dX8_pushed_117 ?_
                  refine lv_topl (fun v22 ev22 => ?_)
                  replace ev22 : v22 = b4 (updN (updN (updN (prt t to (3 * i)) (cO to i 0) (t (cO to i 0))) (cO to i 1) (t (cO to i 1))) (cO to i 2) (t (cO to i 2))) := ev22.trans (b4_add hk2 (nuz hn21 (nuz hn20 hz2)))
                  subst ev22
                  refine lv_lstore (lv' := [(4, .long (b4 (updN (updN (updN (prt t to (3 * i)) (cO to i 0) (t (cO to i 0))) (cO to i 1) (t (cO to i 1))) (cO to i 2) (t (cO to i 2))))), (10, .int (nI (t (cO to i 2)))), (9, .int 2), (7, .int 2), (8, .int (nI (t (cO to i 1)))), (6, .int (nI i)), (0, .ref m0), (1, .long (b4 t)), (3, .int (nI to))]) hx hb dX8_pushed_118 hl (by decide) rfl (fun ls hl => ?_)
                  refine lv_iload hx hb dX8_pushed_120 (lv_at hl 1 rfl) ?_
                  refine lv_istore (lv' := [(8, .int (nI (t (cO to i 2)))), (4, .long (b4 (updN (updN (updN (prt t to (3 * i)) (cO to i 0) (t (cO to i 0))) (cO to i 1) (t (cO to i 1))) (cO to i 2) (t (cO to i 2))))), (10, .int (nI (t (cO to i 2)))), (9, .int 2), (7, .int 2), (6, .int (nI i)), (0, .ref m0), (1, .long (b4 t)), (3, .int (nI to))]) hx hb dX8_pushed_122 hl (by decide) rfl (fun ls hl => ?_)
                  refine lv_iinc (v := 3) (lv' := [(7, .int 3), (8, .int (nI (t (cO to i 2)))), (4, .long (b4 (updN (updN (updN (prt t to (3 * i)) (cO to i 0) (t (cO to i 0))) (cO to i 1) (t (cO to i 1))) (cO to i 2) (t (cO to i 2))))), (10, .int (nI (t (cO to i 2)))), (9, .int 2), (6, .int (nI i)), (0, .ref m0), (1, .long (b4 t)), (3, .int (nI to))]) hx hb dX8_pushed_124 hl (k := 4) rfl (by decide) (by decide) rfl (fun ls hl => ?_)
                  refine lv_iinc (v := 3) (lv' := [(9, .int 3), (7, .int 3), (8, .int (nI (t (cO to i 2)))), (4, .long (b4 (updN (updN (updN (prt t to (3 * i)) (cO to i 0) (t (cO to i 0))) (cO to i 1) (t (cO to i 1))) (cO to i 2) (t (cO to i 2))))), (10, .int (nI (t (cO to i 2)))), (6, .int (nI i)), (0, .ref m0), (1, .long (b4 t)), (3, .int (nI to))]) hx hb dX8_pushed_127 hl (k := 4) rfl (by decide) (by decide) rfl (fun ls hl => ?_)
                  refine lv_goto (tgt := 26) hx hb dX8_pushed_130 (by decide) ?_
                  refine lv_iload hx hb dX8_pushed_26 (lv_at hl 0 rfl) ?_
                  refine lv_iconst (v := 3) hx hb dX8_pushed_28 (by decide) ?_
                  refine lv_icmp_ge (tgt := 133) hx hb dX8_pushed_29 (by decide) (fun _ => ?_) (fun c23 => absurd (by decide) c23)
                  refine lv_iinc (v := (nI (i + 1))) (lv' := [(6, .int ((nI (i + 1)))), (9, .int 3), (7, .int 3), (8, .int (nI (t (cO to i 2)))), (4, .long (b4 (updN (updN (updN (prt t to (3 * i)) (cO to i 0) (t (cO to i 0))) (cO to i 1) (t (cO to i 1))) (cO to i 2) (t (cO to i 2))))), (10, .int (nI (t (cO to i 2)))), (0, .ref m0), (1, .long (b4 t)), (3, .int (nI to))]) hx hb dX8_pushed_133 hl (k := 5) rfl (nI_1 i) (by decide) rfl (fun ls hl => ?_)
                  refine lv_goto (tgt := 11) hx hb dX8_pushed_136 (by decide) ?_
                  have g0 : ¬ (t (cO to i 0)) = 0 := (fun qq_ => c3 ((nI_eq (a := t (cO to i 0)) (b := 0) (by omega) (by omega)).mpr qq_))
                  have g1 : ¬ (t (cO to i 1)) = 0 := (fun qq_ => c10 ((nI_eq (a := t (cO to i 1)) (b := 0) (by omega) (by omega)).mpr qq_))
                  have g2 : ¬ (t (cO to i 1)) = (t (cO to i 0)) := (fun qq_ => c11 ((nI_eq (a := t (cO to i 1)) (b := t (cO to i 0)) (by omega) (by omega)).mpr qq_))
                  have g3 : ¬ (t (cO to i 2)) = 0 := (fun qq_ => c17 ((nI_eq (a := t (cO to i 2)) (b := 0) (by omega) (by omega)).mpr qq_))
                  have g4 : ¬ (t (cO to i 2)) = (t (cO to i 1)) := (fun qq_ => c18 ((nI_eq (a := t (cO to i 2)) (b := t (cO to i 1)) (by omega) (by omega)).mpr qq_))
                  have hmg : mg (lineT t to i) = (t (cO to i 0), t (cO to i 1), t (cO to i 2)) := by simp [lineT, gat, mg, g0, g1, g2, g3, g4, (show ¬ _ = _ from fun q => g2 q.symm), (show ¬ _ = _ from fun q => g4 q.symm)]
                  have hgn : gn (lineT t to i) = 0 := by simp [lineT, gat, gn, g0, g1, g2, g3, g4, (show ¬ _ = _ from fun q => g2 q.symm), (show ¬ _ = _ from fun q => g4 q.symm)]
                  have hgs : gsum t to (i + 1) = gsum t to i + gn (lineT t to i) := rfl
                  subst efi
                  have hH : hm_H Γ (hm_up f m0 (eM r mth mpl mga mtr mke mro mck mli mdz ((nI (gsum t to (i + 1)))) mhi mmi mfh msh msm mso msp mrf)) H := by rw [hgs, hgn]; exact hH
                  refine ih (i + 1) (by omega) H locs hH hS ls ?_
                  rw [lin3 hto hi3 hmg]
                  exact lv_sub hl [0, 4, 6, 7, 8] rfl
                · refine lv_lload hx hb dX8_pushed_61 (lv_at hl 4 rfl) ?_
                  refine lv_lconst (v := 1) hx hb dX8_pushed_63 (by decide) ?_
                  refine lv_iconst (v := 4) hx hb dX8_pushed_64 (by decide) ?_
                  refine lv_iload_n hx hb dX8_pushed_65 rfl (lv_at hl 8 rfl) ?_
                  refine lv_iload hx hb dX8_pushed_66 (lv_at hl 5 rfl) ?_
                  refine lv_iload hx hb dX8_pushed_68 (lv_at hl 2 rfl) ?_
                  refine lv_iconst (v := 1) hx hb dX8_pushed_70 (by decide) ?_
                  refine lv_isub hx hb dX8_pushed_71 ?_
                  refine lv_topi (fun v24 ev24 => ?_)
                  have ev24 : v24 = 1 := ev24.trans (by decide)
                  subst ev24
                  refine hm_callS (rest := [.int 4, .long 1, .long (b4 (updN (updN (prt t to (3 * i)) (cO to i 0) (t (cO to i 0))) (cO to i 1) (t (cO to i 1))))]) (k := 1) q5_158 q5_159 q1_9 q5_160 nm_X8_cellOf rfl hx hb hml hown hts hK hO hS hH hl.1 (c_X8_cellOf Γ l to i 1 fi hto hi3 (by decide)) ⟨Nat.le_of_ble_eq_true rfl, Nat.le_of_ble_eq_true rfl⟩ ⟨Nat.le_of_ble_eq_true rfl, Nat.le_of_ble_eq_true rfl⟩ rfl (Nat.le_of_ble_eq_true rfl) dX8_pushed_72 (fun v_ f_ H locs hp_ hH hS => ?_)
                  obtain ⟨rfl, ef_⟩ := hp_
                  rw [ef_] at hH
                  clear ef_
                  refine W.eq (g2 := F0 m 75 ls [.int (nI (cO to i 1)), .int 4, .long 1, .long (b4 (updN (updN (prt t to (3 * i)) (cO to i 0) (t (cO to i 0))) (cO to i 1) (t (cO to i 1))))]) rfl ?_
                  refine lv_imul hx hb dX8_pushed_75 ?_
                  refine lv_topi (fun v25 ev25 => ?_)
                  replace ev25 : v25 = (4 * (nI (cO to i 1))) := ev25.trans (rfl)
                  subst ev25
                  refine lv_lshl hx hb dX8_pushed_76 rfl ?_
                  refine lv_topl (fun v26 ev26 => ?_)
                  replace ev26 : v26 = (1 <<< (((4 * (nI (cO to i 1)))).toInt64 &&& 63)) := ev26.trans (rfl)
                  subst ev26
                  refine lv_ladd hx hb dX8_pushed_77 ?_
                  refine lv_topl (fun v27 ev27 => ?_)
                  replace ev27 : v27 = b4 (updN (updN (updN (prt t to (3 * i)) (cO to i 0) (t (cO to i 0))) (cO to i 1) (t (cO to i 1))) (cO to i 1) ((t (cO to i 1)) + 1)) := ev27.trans (b4_inc hk1 nuv)
                  subst ev27
                  refine lv_lstore (lv' := [(4, .long (b4 (updN (updN (updN (prt t to (3 * i)) (cO to i 0) (t (cO to i 0))) (cO to i 1) (t (cO to i 1))) (cO to i 1) ((t (cO to i 1)) + 1)))), (10, .int (nI (t (cO to i 2)))), (9, .int 2), (7, .int 2), (8, .int (nI (t (cO to i 1)))), (6, .int (nI i)), (0, .ref m0), (1, .long (b4 t)), (3, .int (nI to))]) hx hb dX8_pushed_78 hl (by decide) rfl (fun ls hl => ?_)
                  refine lv_aload_n hx hb dX8_pushed_80 rfl (lv_at hl 6 rfl) ?_
                  refine lv_dup hx hb dX8_pushed_81 rfl ?_
                  refine gf_X8_113 hx hb hts hown hK hH hmi rfl dX8_pushed_82 ?_
                  refine lv_iconst (v := 1) hx hb dX8_pushed_85 (by decide) ?_
                  refine lv_iload hx hb dX8_pushed_86 (lv_at hl 1 rfl) ?_
                  refine lv_iconst (v := 1) hx hb dX8_pushed_88 (by decide) ?_
                  refine lv_iadd hx hb dX8_pushed_89 ?_
                  refine lv_topi (fun v28 ev28 => ?_)
                  replace ev28 : v28 = nI (t (cO to i 2) + 1) := ev28.trans (nI_1 _)
                  subst ev28
                  refine lv_ishl hx hb dX8_pushed_90 ?_
                  refine lv_topi (fun v29 ev29 => ?_)
                  replace ev29 : v29 = nI (2 ^ (t (cO to i 2) + 1)) := ev29.trans (m_1shl _ (by omega))
                  subst ev29
                  refine lv_iadd hx hb dX8_pushed_91 ?_
                  refine lv_topi (fun v30 ev30 => ?_)
                  replace ev30 : v30 = nI (gsum t to i + 2 ^ (t (cO to i 2) + 1)) := ev30.trans (nI_add _ _)
                  subst ev30
                  refine pf_X8_113 hx hb hts hown hK hO hS hH hmi rfl (Nat.le_of_ble_eq_true rfl) rfl dX8_pushed_92 (fun H locs hH hS => ?_)
                  obtain ⟨f31, ef31⟩ : ∃ zz_, zz_ = hm_up fi m0 (eM r mth mpl mga mtr mke mro mck mli mdz (nI (gsum t to i + 2 ^ (t (cO to i 2) + 1))) mhi mmi mfh msh msm mso msp mrf) := ⟨_, rfl⟩
                  have hH : hm_H Γ f31 H := by rw [ef31]; exact hH
                  have h32 : f31 m0 = some (eM r mth mpl mga mtr mke mro mck mli mdz (nI (gsum t to i + 2 ^ (t (cO to i 2) + 1))) mhi mmi mfh msh msm mso msp mrf) := by rw [ef31]; exact hm_us
                  refine lv_iconst (v := 0) hx hb dX8_pushed_95 (by decide) ?_
                  refine lv_istore (lv' := [(8, .int 0), (4, .long (b4 (updN (updN (updN (prt t to (3 * i)) (cO to i 0) (t (cO to i 0))) (cO to i 1) (t (cO to i 1))) (cO to i 1) ((t (cO to i 1)) + 1)))), (10, .int (nI (t (cO to i 2)))), (9, .int 2), (7, .int 2), (6, .int (nI i)), (0, .ref m0), (1, .long (b4 t)), (3, .int (nI to))]) hx hb dX8_pushed_96 hl (by decide) rfl (fun ls hl => ?_)
                  refine lv_goto (tgt := 127) hx hb dX8_pushed_98 (by decide) ?_
                  refine lv_iinc (v := 3) (lv' := [(9, .int 3), (8, .int 0), (4, .long (b4 (updN (updN (updN (prt t to (3 * i)) (cO to i 0) (t (cO to i 0))) (cO to i 1) (t (cO to i 1))) (cO to i 1) ((t (cO to i 1)) + 1)))), (10, .int (nI (t (cO to i 2)))), (7, .int 2), (6, .int (nI i)), (0, .ref m0), (1, .long (b4 t)), (3, .int (nI to))]) hx hb dX8_pushed_127 hl (k := 3) rfl (by decide) (by decide) rfl (fun ls hl => ?_)
                  refine lv_goto (tgt := 26) hx hb dX8_pushed_130 (by decide) ?_
                  refine lv_iload hx hb dX8_pushed_26 (lv_at hl 0 rfl) ?_
                  refine lv_iconst (v := 3) hx hb dX8_pushed_28 (by decide) ?_
                  refine lv_icmp_ge (tgt := 133) hx hb dX8_pushed_29 (by decide) (fun _ => ?_) (fun c33 => absurd (by decide) c33)
                  refine lv_iinc (v := (nI (i + 1))) (lv' := [(6, .int ((nI (i + 1)))), (9, .int 3), (8, .int 0), (4, .long (b4 (updN (updN (updN (prt t to (3 * i)) (cO to i 0) (t (cO to i 0))) (cO to i 1) (t (cO to i 1))) (cO to i 1) ((t (cO to i 1)) + 1)))), (10, .int (nI (t (cO to i 2)))), (7, .int 2), (0, .ref m0), (1, .long (b4 t)), (3, .int (nI to))]) hx hb dX8_pushed_133 hl (k := 5) rfl (nI_1 i) (by decide) rfl (fun ls hl => ?_)
                  refine lv_goto (tgt := 11) hx hb dX8_pushed_136 (by decide) ?_
                  have g0 : ¬ (t (cO to i 0)) = 0 := (fun qq_ => c3 ((nI_eq (a := t (cO to i 0)) (b := 0) (by omega) (by omega)).mpr qq_))
                  have g1 : ¬ (t (cO to i 1)) = 0 := (fun qq_ => c10 ((nI_eq (a := t (cO to i 1)) (b := 0) (by omega) (by omega)).mpr qq_))
                  have g2 : ¬ (t (cO to i 1)) = (t (cO to i 0)) := (fun qq_ => c11 ((nI_eq (a := t (cO to i 1)) (b := t (cO to i 0)) (by omega) (by omega)).mpr qq_))
                  have g3 : ¬ (t (cO to i 2)) = 0 := (fun qq_ => c17 ((nI_eq (a := t (cO to i 2)) (b := 0) (by omega) (by omega)).mpr qq_))
                  have g4 : (t (cO to i 2)) = (t (cO to i 1)) := (nI_eq (a := t (cO to i 2)) (b := t (cO to i 1)) (by omega) (by omega)).mp c18
                  have hmg : mg (lineT t to i) = (t (cO to i 0), (t (cO to i 1)) + 1, 0) := by simp [lineT, gat, mg, g0, g1, g2, g3, g4, (show ¬ _ = _ from fun q => g2 q.symm)]
                  have hgn : gn (lineT t to i) = 2 ^ (t (cO to i 2) + 1) := by simp [lineT, gat, gn, g0, g1, g2, g3, g4, (show ¬ _ = _ from fun q => g2 q.symm)]
                  have hgs : gsum t to (i + 1) = gsum t to i + gn (lineT t to i) := rfl
                  subst ef31
                  subst efi
                  have hH : hm_H Γ (hm_up f m0 (eM r mth mpl mga mtr mke mro mck mli mdz ((nI (gsum t to (i + 1)))) mhi mmi mfh msh msm mso msp mrf)) H := by rw [hgs, hgn]; simp only [hm_uu] at hH; exact hH
                  refine ih (i + 1) (by omega) H locs hH hS ls ?_
                  rw [lin2 hto hi3 hmg]
                  rw [nu1] at hl
                  exact lv_sub hl [0, 3, 6, 7, 8] rfl
              · refine lv_goto (tgt := 127) hx hb dX8_pushed_51 (by decide) ?_
                refine lv_iinc (v := 3) (lv' := [(9, .int 3), (10, .int (nI (t (cO to i 2)))), (7, .int 2), (8, .int (nI (t (cO to i 1)))), (4, .long (b4 (updN (updN (prt t to (3 * i)) (cO to i 0) (t (cO to i 0))) (cO to i 1) (t (cO to i 1))))), (6, .int (nI i)), (0, .ref m0), (1, .long (b4 t)), (3, .int (nI to))]) hx hb dX8_pushed_127 hl (k := 1) rfl (by decide) (by decide) rfl (fun ls hl => ?_)
                refine lv_goto (tgt := 26) hx hb dX8_pushed_130 (by decide) ?_
                refine lv_iload hx hb dX8_pushed_26 (lv_at hl 0 rfl) ?_
                refine lv_iconst (v := 3) hx hb dX8_pushed_28 (by decide) ?_
                refine lv_icmp_ge (tgt := 133) hx hb dX8_pushed_29 (by decide) (fun _ => ?_) (fun c34 => absurd (by decide) c34)
                refine lv_iinc (v := (nI (i + 1))) (lv' := [(6, .int ((nI (i + 1)))), (9, .int 3), (10, .int (nI (t (cO to i 2)))), (7, .int 2), (8, .int (nI (t (cO to i 1)))), (4, .long (b4 (updN (updN (prt t to (3 * i)) (cO to i 0) (t (cO to i 0))) (cO to i 1) (t (cO to i 1))))), (0, .ref m0), (1, .long (b4 t)), (3, .int (nI to))]) hx hb dX8_pushed_133 hl (k := 5) rfl (nI_1 i) (by decide) rfl (fun ls hl => ?_)
                refine lv_goto (tgt := 11) hx hb dX8_pushed_136 (by decide) ?_
                have g0 : ¬ (t (cO to i 0)) = 0 := (fun qq_ => c3 ((nI_eq (a := t (cO to i 0)) (b := 0) (by omega) (by omega)).mpr qq_))
                have g1 : ¬ (t (cO to i 1)) = 0 := (fun qq_ => c10 ((nI_eq (a := t (cO to i 1)) (b := 0) (by omega) (by omega)).mpr qq_))
                have g2 : ¬ (t (cO to i 1)) = (t (cO to i 0)) := (fun qq_ => c11 ((nI_eq (a := t (cO to i 1)) (b := t (cO to i 0)) (by omega) (by omega)).mpr qq_))
                have g3 : (t (cO to i 2)) = 0 := (nI_eq (a := t (cO to i 2)) (b := 0) (by omega) (by omega)).mp c17
                have hmg : mg (lineT t to i) = (t (cO to i 0), t (cO to i 1), 0) := by simp [lineT, gat, mg, g0, g1, g2, g3, (show ¬ _ = _ from fun q => g2 q.symm)]
                have hgn : gn (lineT t to i) = 0 := by simp [lineT, gat, gn, g0, g1, g2, g3, (show ¬ _ = _ from fun q => g2 q.symm)]
                have hgs : gsum t to (i + 1) = gsum t to i + gn (lineT t to i) := rfl
                subst efi
                have hH : hm_H Γ (hm_up f m0 (eM r mth mpl mga mtr mke mro mck mli mdz ((nI (gsum t to (i + 1)))) mhi mmi mfh msh msm mso msp mrf)) H := by rw [hgs, hgn]; exact hH
                refine ih (i + 1) (by omega) H locs hH hS ls ?_
                rw [lin2 hto hi3 hmg]
                exact lv_sub hl [0, 5, 6, 7, 8] rfl
            · refine lv_lload hx hb dX8_pushed_61 (lv_at hl 4 rfl) ?_
              refine lv_lconst (v := 1) hx hb dX8_pushed_63 (by decide) ?_
              refine lv_iconst (v := 4) hx hb dX8_pushed_64 (by decide) ?_
              refine lv_iload_n hx hb dX8_pushed_65 rfl (lv_at hl 8 rfl) ?_
              refine lv_iload hx hb dX8_pushed_66 (lv_at hl 5 rfl) ?_
              refine lv_iload hx hb dX8_pushed_68 (lv_at hl 2 rfl) ?_
              refine lv_iconst (v := 1) hx hb dX8_pushed_70 (by decide) ?_
              refine lv_isub hx hb dX8_pushed_71 ?_
              refine lv_topi (fun v35 ev35 => ?_)
              have ev35 : v35 = 0 := ev35.trans (by decide)
              subst ev35
              refine hm_callS (rest := [.int 4, .long 1, .long (b4 (updN (prt t to (3 * i)) (cO to i 0) (t (cO to i 0))))]) (k := 1) q5_158 q5_159 q1_9 q5_160 nm_X8_cellOf rfl hx hb hml hown hts hK hO hS hH hl.1 (c_X8_cellOf Γ l to i 0 fi hto hi3 (by decide)) ⟨Nat.le_of_ble_eq_true rfl, Nat.le_of_ble_eq_true rfl⟩ ⟨Nat.le_of_ble_eq_true rfl, Nat.le_of_ble_eq_true rfl⟩ rfl (Nat.le_of_ble_eq_true rfl) dX8_pushed_72 (fun v_ f_ H locs hp_ hH hS => ?_)
              obtain ⟨rfl, ef_⟩ := hp_
              rw [ef_] at hH
              clear ef_
              refine W.eq (g2 := F0 m 75 ls [.int (nI (cO to i 0)), .int 4, .long 1, .long (b4 (updN (prt t to (3 * i)) (cO to i 0) (t (cO to i 0))))]) rfl ?_
              refine lv_imul hx hb dX8_pushed_75 ?_
              refine lv_topi (fun v36 ev36 => ?_)
              replace ev36 : v36 = (4 * (nI (cO to i 0))) := ev36.trans (rfl)
              subst ev36
              refine lv_lshl hx hb dX8_pushed_76 rfl ?_
              refine lv_topl (fun v37 ev37 => ?_)
              replace ev37 : v37 = (1 <<< (((4 * (nI (cO to i 0)))).toInt64 &&& 63)) := ev37.trans (rfl)
              subst ev37
              refine lv_ladd hx hb dX8_pushed_77 ?_
              refine lv_topl (fun v38 ev38 => ?_)
              replace ev38 : v38 = b4 (updN (updN (prt t to (3 * i)) (cO to i 0) (t (cO to i 0))) (cO to i 0) ((t (cO to i 0)) + 1)) := ev38.trans (b4_inc hk0 nuv)
              subst ev38
              refine lv_lstore (lv' := [(4, .long (b4 (updN (updN (prt t to (3 * i)) (cO to i 0) (t (cO to i 0))) (cO to i 0) ((t (cO to i 0)) + 1)))), (10, .int (nI (t (cO to i 1)))), (9, .int 1), (7, .int 1), (8, .int (nI (t (cO to i 0)))), (6, .int (nI i)), (0, .ref m0), (1, .long (b4 t)), (3, .int (nI to))]) hx hb dX8_pushed_78 hl (by decide) rfl (fun ls hl => ?_)
              refine lv_aload_n hx hb dX8_pushed_80 rfl (lv_at hl 6 rfl) ?_
              refine lv_dup hx hb dX8_pushed_81 rfl ?_
              refine gf_X8_113 hx hb hts hown hK hH hmi rfl dX8_pushed_82 ?_
              refine lv_iconst (v := 1) hx hb dX8_pushed_85 (by decide) ?_
              refine lv_iload hx hb dX8_pushed_86 (lv_at hl 1 rfl) ?_
              refine lv_iconst (v := 1) hx hb dX8_pushed_88 (by decide) ?_
              refine lv_iadd hx hb dX8_pushed_89 ?_
              refine lv_topi (fun v39 ev39 => ?_)
              replace ev39 : v39 = nI (t (cO to i 1) + 1) := ev39.trans (nI_1 _)
              subst ev39
              refine lv_ishl hx hb dX8_pushed_90 ?_
              refine lv_topi (fun v40 ev40 => ?_)
              replace ev40 : v40 = nI (2 ^ (t (cO to i 1) + 1)) := ev40.trans (m_1shl _ (by omega))
              subst ev40
              refine lv_iadd hx hb dX8_pushed_91 ?_
              refine lv_topi (fun v41 ev41 => ?_)
              replace ev41 : v41 = nI (gsum t to i + 2 ^ (t (cO to i 1) + 1)) := ev41.trans (nI_add _ _)
              subst ev41
              refine pf_X8_113 hx hb hts hown hK hO hS hH hmi rfl (Nat.le_of_ble_eq_true rfl) rfl dX8_pushed_92 (fun H locs hH hS => ?_)
              obtain ⟨f42, ef42⟩ : ∃ zz_, zz_ = hm_up fi m0 (eM r mth mpl mga mtr mke mro mck mli mdz (nI (gsum t to i + 2 ^ (t (cO to i 1) + 1))) mhi mmi mfh msh msm mso msp mrf) := ⟨_, rfl⟩
              have hH : hm_H Γ f42 H := by rw [ef42]; exact hH
              have h43 : f42 m0 = some (eM r mth mpl mga mtr mke mro mck mli mdz (nI (gsum t to i + 2 ^ (t (cO to i 1) + 1))) mhi mmi mfh msh msm mso msp mrf) := by rw [ef42]; exact hm_us
              refine lv_iconst (v := 0) hx hb dX8_pushed_95 (by decide) ?_
              refine lv_istore (lv' := [(8, .int 0), (4, .long (b4 (updN (updN (prt t to (3 * i)) (cO to i 0) (t (cO to i 0))) (cO to i 0) ((t (cO to i 0)) + 1)))), (10, .int (nI (t (cO to i 1)))), (9, .int 1), (7, .int 1), (6, .int (nI i)), (0, .ref m0), (1, .long (b4 t)), (3, .int (nI to))]) hx hb dX8_pushed_96 hl (by decide) rfl (fun ls hl => ?_)
              refine lv_goto (tgt := 127) hx hb dX8_pushed_98 (by decide) ?_
              refine lv_iinc (v := 2) (lv' := [(9, .int 2), (8, .int 0), (4, .long (b4 (updN (updN (prt t to (3 * i)) (cO to i 0) (t (cO to i 0))) (cO to i 0) ((t (cO to i 0)) + 1)))), (10, .int (nI (t (cO to i 1)))), (7, .int 1), (6, .int (nI i)), (0, .ref m0), (1, .long (b4 t)), (3, .int (nI to))]) hx hb dX8_pushed_127 hl (k := 3) rfl (by decide) (by decide) rfl (fun ls hl => ?_)
              refine lv_goto (tgt := 26) hx hb dX8_pushed_130 (by decide) ?_
              refine lv_iload hx hb dX8_pushed_26 (lv_at hl 0 rfl) ?_
              refine lv_iconst (v := 3) hx hb dX8_pushed_28 (by decide) ?_
              refine lv_icmp_ge (tgt := 133) hx hb dX8_pushed_29 (by decide) (fun c44 => absurd c44 (by decide)) (fun _ => ?_)
              refine lv_lload_n hx hb dX8_pushed_32 rfl (lv_at hl 7 rfl) ?_
              refine lv_iload_n hx hb dX8_pushed_33 rfl (lv_at hl 8 rfl) ?_
              refine lv_iload hx hb dX8_pushed_34 (lv_at hl 5 rfl) ?_
              refine lv_iload hx hb dX8_pushed_36 (lv_at hl 0 rfl) ?_
              refine hm_callS (rest := [.long (b4 t)]) (k := 1) q5_158 q5_159 q1_9 q5_160 nm_X8_cellOf rfl hx hb hml hown hts hK hO hS hH hl.1 (c_X8_cellOf Γ l to i 2 f42 hto hi3 (by decide)) ⟨Nat.le_of_ble_eq_true rfl, Nat.le_of_ble_eq_true rfl⟩ ⟨Nat.le_of_ble_eq_true rfl, Nat.le_of_ble_eq_true rfl⟩ rfl (Nat.le_of_ble_eq_true rfl) dX8_pushed_38 (fun v_ f_ H locs hp_ hH hS => ?_)
              obtain ⟨rfl, ef_⟩ := hp_
              rw [ef_] at hH
              clear ef_
              refine W.eq (g2 := F0 m 41 ls [.int (nI (cO to i 2)), .long (b4 t)]) rfl ?_
              refine hm_callS (rest := []) (k := 1) q5_131 q5_132 q1_9 q5_133 nm_X8_tile rfl hx hb hml hown hts hK hO hS hH hl.1 (c_X8_tile Γ l t (cO to i 2) f42 ht16 hk2) ⟨Nat.le_of_ble_eq_true rfl, Nat.le_of_ble_eq_true rfl⟩ ⟨Nat.le_of_ble_eq_true rfl, Nat.le_of_ble_eq_true rfl⟩ rfl (Nat.le_of_ble_eq_true rfl) dX8_pushed_41 (fun v_ f_ H locs hp_ hH hS => ?_)
              obtain ⟨rfl, ef_⟩ := hp_
              rw [ef_] at hH
              clear ef_
              refine W.eq (g2 := F0 m 44 ls [.int (nI (t (cO to i 2)))]) rfl ?_
              refine lv_istore (lv' := [(10, .int (nI (t (cO to i 2)))), (9, .int 2), (8, .int 0), (4, .long (b4 (updN (updN (prt t to (3 * i)) (cO to i 0) (t (cO to i 0))) (cO to i 0) ((t (cO to i 0)) + 1)))), (7, .int 1), (6, .int (nI i)), (0, .ref m0), (1, .long (b4 t)), (3, .int (nI to))]) hx hb dX8_pushed_44 hl (by decide) rfl (fun ls hl => ?_)
              refine lv_iload hx hb dX8_pushed_46 (lv_at hl 0 rfl) ?_
              refine lv_if_ne (tgt := 54) hx hb dX8_pushed_48 (by decide) (fun c45 => ?_) (fun c45 => ?_)
              · refine lv_iload hx hb dX8_pushed_54 (lv_at hl 0 rfl) ?_
                refine lv_iload hx hb dX8_pushed_56 (lv_at hl 2 rfl) ?_
                refine lv_icmp_ne (tgt := 101) hx hb dX8_pushed_58 (by decide) (fun _ => ?_) (fun c46 => absurd c46 (c45))
                refine lv_lload hx hb dX8_pushed_101 (lv_at hl 3 rfl) ?_
                refine lv_iload hx hb dX8_pushed_103 (lv_at hl 0 rfl) ?_
                refine lv_i2l hx hb dX8_pushed_105 rfl ?_
                refine lv_topl (fun v47 ev47 => ?_)
                replace ev47 : v47 = lN (t (cO to i 2)) := ev47.trans (nI_l (by omega))
                subst ev47
                refine lv_iconst (v := 4) hx hb dX8_pushed_106 (by decide) ?_
                refine lv_iload_n hx hb dX8_pushed_107 rfl (lv_at hl 8 rfl) ?_
                refine lv_iload hx hb dX8_pushed_108 (lv_at hl 5 rfl) ?_
                refine lv_iload hx hb dX8_pushed_110 (lv_at hl 4 rfl) ?_
                refine hm_callS (rest := [.int 4, .long (lN (t (cO to i 2))), .long (b4 (updN (updN (prt t to (3 * i)) (cO to i 0) (t (cO to i 0))) (cO to i 0) ((t (cO to i 0)) + 1)))]) (k := 1) q5_158 q5_159 q1_9 q5_160 nm_X8_cellOf rfl hx hb hml hown hts hK hO hS hH hl.1 (c_X8_cellOf Γ l to i 1 f42 hto hi3 (by decide)) ⟨Nat.le_of_ble_eq_true rfl, Nat.le_of_ble_eq_true rfl⟩ ⟨Nat.le_of_ble_eq_true rfl, Nat.le_of_ble_eq_true rfl⟩ rfl (Nat.le_of_ble_eq_true rfl) dX8_pushed_112 (fun v_ f_ H locs hp_ hH hS => ?_)
                obtain ⟨rfl, ef_⟩ := hp_
                rw [ef_] at hH
                clear ef_
                refine W.eq (g2 := F0 m 115 ls [.int (nI (cO to i 1)), .int 4, .long (lN (t (cO to i 2))), .long (b4 (updN (updN (prt t to (3 * i)) (cO to i 0) (t (cO to i 0))) (cO to i 0) ((t (cO to i 0)) + 1)))]) rfl ?_
                refine lv_imul hx hb dX8_pushed_115 ?_
                refine lv_topi (fun v48 ev48 => ?_)
                replace ev48 : v48 = (4 * (nI (cO to i 1))) := ev48.trans (rfl)
                subst ev48
                refine lv_lshl hx hb dX8_pushed_116 rfl ?_
                refine lv_topl (fun v49 ev49 => ?_)
                replace ev49 : v49 = ((lN (t (cO to i 2))) <<< (((4 * (nI (cO to i 1)))).toInt64 &&& 63)) := ev49.trans (rfl)
                subst ev49
                refine lv_ladd hx hb dX8_pushed_117 ?_
                refine lv_topl (fun v50 ev50 => ?_)
                replace ev50 : v50 = b4 (updN (updN (updN (prt t to (3 * i)) (cO to i 0) (t (cO to i 0))) (cO to i 0) ((t (cO to i 0)) + 1)) (cO to i 1) (t (cO to i 2))) := ev50.trans (b4_add hk1 (nuz hn10 (nuz hn10 hz1)))
                subst ev50
                refine lv_lstore (lv' := [(4, .long (b4 (updN (updN (updN (prt t to (3 * i)) (cO to i 0) (t (cO to i 0))) (cO to i 0) ((t (cO to i 0)) + 1)) (cO to i 1) (t (cO to i 2))))), (10, .int (nI (t (cO to i 2)))), (9, .int 2), (8, .int 0), (7, .int 1), (6, .int (nI i)), (0, .ref m0), (1, .long (b4 t)), (3, .int (nI to))]) hx hb dX8_pushed_118 hl (by decide) rfl (fun ls hl => ?_)
                refine lv_iload hx hb dX8_pushed_120 (lv_at hl 1 rfl) ?_
                refine lv_istore (lv' := [(8, .int (nI (t (cO to i 2)))), (4, .long (b4 (updN (updN (updN (prt t to (3 * i)) (cO to i 0) (t (cO to i 0))) (cO to i 0) ((t (cO to i 0)) + 1)) (cO to i 1) (t (cO to i 2))))), (10, .int (nI (t (cO to i 2)))), (9, .int 2), (7, .int 1), (6, .int (nI i)), (0, .ref m0), (1, .long (b4 t)), (3, .int (nI to))]) hx hb dX8_pushed_122 hl (by decide) rfl (fun ls hl => ?_)
                refine lv_iinc (v := 2) (lv' := [(7, .int 2), (8, .int (nI (t (cO to i 2)))), (4, .long (b4 (updN (updN (updN (prt t to (3 * i)) (cO to i 0) (t (cO to i 0))) (cO to i 0) ((t (cO to i 0)) + 1)) (cO to i 1) (t (cO to i 2))))), (10, .int (nI (t (cO to i 2)))), (9, .int 2), (6, .int (nI i)), (0, .ref m0), (1, .long (b4 t)), (3, .int (nI to))]) hx hb dX8_pushed_124 hl (k := 4) rfl (by decide) (by decide) rfl (fun ls hl => ?_)
                refine lv_iinc (v := 3) (lv' := [(9, .int 3), (7, .int 2), (8, .int (nI (t (cO to i 2)))), (4, .long (b4 (updN (updN (updN (prt t to (3 * i)) (cO to i 0) (t (cO to i 0))) (cO to i 0) ((t (cO to i 0)) + 1)) (cO to i 1) (t (cO to i 2))))), (10, .int (nI (t (cO to i 2)))), (6, .int (nI i)), (0, .ref m0), (1, .long (b4 t)), (3, .int (nI to))]) hx hb dX8_pushed_127 hl (k := 4) rfl (by decide) (by decide) rfl (fun ls hl => ?_)
                refine lv_goto (tgt := 26) hx hb dX8_pushed_130 (by decide) ?_
                refine lv_iload hx hb dX8_pushed_26 (lv_at hl 0 rfl) ?_
                refine lv_iconst (v := 3) hx hb dX8_pushed_28 (by decide) ?_
                refine lv_icmp_ge (tgt := 133) hx hb dX8_pushed_29 (by decide) (fun _ => ?_) (fun c51 => absurd (by decide) c51)
                refine lv_iinc (v := (nI (i + 1))) (lv' := [(6, .int ((nI (i + 1)))), (9, .int 3), (7, .int 2), (8, .int (nI (t (cO to i 2)))), (4, .long (b4 (updN (updN (updN (prt t to (3 * i)) (cO to i 0) (t (cO to i 0))) (cO to i 0) ((t (cO to i 0)) + 1)) (cO to i 1) (t (cO to i 2))))), (10, .int (nI (t (cO to i 2)))), (0, .ref m0), (1, .long (b4 t)), (3, .int (nI to))]) hx hb dX8_pushed_133 hl (k := 5) rfl (nI_1 i) (by decide) rfl (fun ls hl => ?_)
                refine lv_goto (tgt := 11) hx hb dX8_pushed_136 (by decide) ?_
                have g0 : ¬ (t (cO to i 0)) = 0 := (fun qq_ => c3 ((nI_eq (a := t (cO to i 0)) (b := 0) (by omega) (by omega)).mpr qq_))
                have g1 : ¬ (t (cO to i 1)) = 0 := (fun qq_ => c10 ((nI_eq (a := t (cO to i 1)) (b := 0) (by omega) (by omega)).mpr qq_))
                have g2 : (t (cO to i 1)) = (t (cO to i 0)) := (nI_eq (a := t (cO to i 1)) (b := t (cO to i 0)) (by omega) (by omega)).mp c11
                have g3 : ¬ (t (cO to i 2)) = 0 := (fun qq_ => c45 ((nI_eq (a := t (cO to i 2)) (b := 0) (by omega) (by omega)).mpr qq_))
                have hmg : mg (lineT t to i) = ((t (cO to i 0)) + 1, t (cO to i 2), 0) := by simp [lineT, gat, mg, g0, g1, g2, g3]
                have hgn : gn (lineT t to i) = 2 ^ (t (cO to i 1) + 1) := by simp [lineT, gat, gn, g0, g1, g2, g3]
                have hgs : gsum t to (i + 1) = gsum t to i + gn (lineT t to i) := rfl
                subst ef42
                subst efi
                have hH : hm_H Γ (hm_up f m0 (eM r mth mpl mga mtr mke mro mck mli mdz ((nI (gsum t to (i + 1)))) mhi mmi mfh msh msm mso msp mrf)) H := by rw [hgs, hgn]; simp only [hm_uu] at hH; exact hH
                refine ih (i + 1) (by omega) H locs hH hS ls ?_
                rw [lin2 hto hi3 hmg]
                rw [nu1] at hl
                exact lv_sub hl [0, 4, 6, 7, 8] rfl
              · refine lv_goto (tgt := 127) hx hb dX8_pushed_51 (by decide) ?_
                refine lv_iinc (v := 3) (lv' := [(9, .int 3), (10, .int (nI (t (cO to i 2)))), (8, .int 0), (4, .long (b4 (updN (updN (prt t to (3 * i)) (cO to i 0) (t (cO to i 0))) (cO to i 0) ((t (cO to i 0)) + 1)))), (7, .int 1), (6, .int (nI i)), (0, .ref m0), (1, .long (b4 t)), (3, .int (nI to))]) hx hb dX8_pushed_127 hl (k := 1) rfl (by decide) (by decide) rfl (fun ls hl => ?_)
                refine lv_goto (tgt := 26) hx hb dX8_pushed_130 (by decide) ?_
                refine lv_iload hx hb dX8_pushed_26 (lv_at hl 0 rfl) ?_
                refine lv_iconst (v := 3) hx hb dX8_pushed_28 (by decide) ?_
                refine lv_icmp_ge (tgt := 133) hx hb dX8_pushed_29 (by decide) (fun _ => ?_) (fun c52 => absurd (by decide) c52)
                refine lv_iinc (v := (nI (i + 1))) (lv' := [(6, .int ((nI (i + 1)))), (9, .int 3), (10, .int (nI (t (cO to i 2)))), (8, .int 0), (4, .long (b4 (updN (updN (prt t to (3 * i)) (cO to i 0) (t (cO to i 0))) (cO to i 0) ((t (cO to i 0)) + 1)))), (7, .int 1), (0, .ref m0), (1, .long (b4 t)), (3, .int (nI to))]) hx hb dX8_pushed_133 hl (k := 5) rfl (nI_1 i) (by decide) rfl (fun ls hl => ?_)
                refine lv_goto (tgt := 11) hx hb dX8_pushed_136 (by decide) ?_
                have g0 : ¬ (t (cO to i 0)) = 0 := (fun qq_ => c3 ((nI_eq (a := t (cO to i 0)) (b := 0) (by omega) (by omega)).mpr qq_))
                have g1 : ¬ (t (cO to i 1)) = 0 := (fun qq_ => c10 ((nI_eq (a := t (cO to i 1)) (b := 0) (by omega) (by omega)).mpr qq_))
                have g2 : (t (cO to i 1)) = (t (cO to i 0)) := (nI_eq (a := t (cO to i 1)) (b := t (cO to i 0)) (by omega) (by omega)).mp c11
                have g3 : (t (cO to i 2)) = 0 := (nI_eq (a := t (cO to i 2)) (b := 0) (by omega) (by omega)).mp c45
                have hmg : mg (lineT t to i) = ((t (cO to i 0)) + 1, 0, 0) := by simp [lineT, gat, mg, g0, g1, g2, g3]
                have hgn : gn (lineT t to i) = 2 ^ (t (cO to i 1) + 1) := by simp [lineT, gat, gn, g0, g1, g2, g3]
                have hgs : gsum t to (i + 1) = gsum t to i + gn (lineT t to i) := rfl
                subst ef42
                subst efi
                have hH : hm_H Γ (hm_up f m0 (eM r mth mpl mga mtr mke mro mck mli mdz ((nI (gsum t to (i + 1)))) mhi mmi mfh msh msm mso msp mrf)) H := by rw [hgs, hgn]; simp only [hm_uu] at hH; exact hH
                refine ih (i + 1) (by omega) H locs hH hS ls ?_
                rw [lin1 hto hi3 hmg]
                rw [nu1] at hl
                exact lv_sub hl [0, 4, 6, 7, 8] rfl
          · refine lv_goto (tgt := 127) hx hb dX8_pushed_51 (by decide) ?_
            refine lv_iinc (v := 2) (lv' := [(9, .int 2), (10, .int (nI (t (cO to i 1)))), (7, .int 1), (8, .int (nI (t (cO to i 0)))), (4, .long (b4 (updN (prt t to (3 * i)) (cO to i 0) (t (cO to i 0))))), (6, .int (nI i)), (0, .ref m0), (1, .long (b4 t)), (3, .int (nI to))]) hx hb dX8_pushed_127 hl (k := 1) rfl (by decide) (by decide) rfl (fun ls hl => ?_)
            refine lv_goto (tgt := 26) hx hb dX8_pushed_130 (by decide) ?_
            refine lv_iload hx hb dX8_pushed_26 (lv_at hl 0 rfl) ?_
            refine lv_iconst (v := 3) hx hb dX8_pushed_28 (by decide) ?_
            refine lv_icmp_ge (tgt := 133) hx hb dX8_pushed_29 (by decide) (fun c53 => absurd c53 (by decide)) (fun _ => ?_)
            refine lv_lload_n hx hb dX8_pushed_32 rfl (lv_at hl 7 rfl) ?_
            refine lv_iload_n hx hb dX8_pushed_33 rfl (lv_at hl 8 rfl) ?_
            refine lv_iload hx hb dX8_pushed_34 (lv_at hl 5 rfl) ?_
            refine lv_iload hx hb dX8_pushed_36 (lv_at hl 0 rfl) ?_
            refine hm_callS (rest := [.long (b4 t)]) (k := 1) q5_158 q5_159 q1_9 q5_160 nm_X8_cellOf rfl hx hb hml hown hts hK hO hS hH hl.1 (c_X8_cellOf Γ l to i 2 fi hto hi3 (by decide)) ⟨Nat.le_of_ble_eq_true rfl, Nat.le_of_ble_eq_true rfl⟩ ⟨Nat.le_of_ble_eq_true rfl, Nat.le_of_ble_eq_true rfl⟩ rfl (Nat.le_of_ble_eq_true rfl) dX8_pushed_38 (fun v_ f_ H locs hp_ hH hS => ?_)
            obtain ⟨rfl, ef_⟩ := hp_
            rw [ef_] at hH
            clear ef_
            refine W.eq (g2 := F0 m 41 ls [.int (nI (cO to i 2)), .long (b4 t)]) rfl ?_
            refine hm_callS (rest := []) (k := 1) q5_131 q5_132 q1_9 q5_133 nm_X8_tile rfl hx hb hml hown hts hK hO hS hH hl.1 (c_X8_tile Γ l t (cO to i 2) fi ht16 hk2) ⟨Nat.le_of_ble_eq_true rfl, Nat.le_of_ble_eq_true rfl⟩ ⟨Nat.le_of_ble_eq_true rfl, Nat.le_of_ble_eq_true rfl⟩ rfl (Nat.le_of_ble_eq_true rfl) dX8_pushed_41 (fun v_ f_ H locs hp_ hH hS => ?_)
            obtain ⟨rfl, ef_⟩ := hp_
            rw [ef_] at hH
            clear ef_
            refine W.eq (g2 := F0 m 44 ls [.int (nI (t (cO to i 2)))]) rfl ?_
            refine lv_istore (lv' := [(10, .int (nI (t (cO to i 2)))), (9, .int 2), (7, .int 1), (8, .int (nI (t (cO to i 0)))), (4, .long (b4 (updN (prt t to (3 * i)) (cO to i 0) (t (cO to i 0))))), (6, .int (nI i)), (0, .ref m0), (1, .long (b4 t)), (3, .int (nI to))]) hx hb dX8_pushed_44 hl (by decide) rfl (fun ls hl => ?_)
            refine lv_iload hx hb dX8_pushed_46 (lv_at hl 0 rfl) ?_
            refine lv_if_ne (tgt := 54) hx hb dX8_pushed_48 (by decide) (fun c54 => ?_) (fun c54 => ?_)
            · refine lv_iload hx hb dX8_pushed_54 (lv_at hl 0 rfl) ?_
              refine lv_iload hx hb dX8_pushed_56 (lv_at hl 3 rfl) ?_
              refine lv_icmp_ne (tgt := 101) hx hb dX8_pushed_58 (by decide) (fun c55 => ?_) (fun c55 => ?_)
              · refine lv_lload hx hb dX8_pushed_101 (lv_at hl 4 rfl) ?_
                refine lv_iload hx hb dX8_pushed_103 (lv_at hl 0 rfl) ?_
                refine lv_i2l hx hb dX8_pushed_105 rfl ?_
                refine lv_topl (fun v56 ev56 => ?_)
                replace ev56 : v56 = lN (t (cO to i 2)) := ev56.trans (nI_l (by omega))
                subst ev56
                refine lv_iconst (v := 4) hx hb dX8_pushed_106 (by decide) ?_
                refine lv_iload_n hx hb dX8_pushed_107 rfl (lv_at hl 8 rfl) ?_
                refine lv_iload hx hb dX8_pushed_108 (lv_at hl 5 rfl) ?_
                refine lv_iload hx hb dX8_pushed_110 (lv_at hl 2 rfl) ?_
                refine hm_callS (rest := [.int 4, .long (lN (t (cO to i 2))), .long (b4 (updN (prt t to (3 * i)) (cO to i 0) (t (cO to i 0))))]) (k := 1) q5_158 q5_159 q1_9 q5_160 nm_X8_cellOf rfl hx hb hml hown hts hK hO hS hH hl.1 (c_X8_cellOf Γ l to i 1 fi hto hi3 (by decide)) ⟨Nat.le_of_ble_eq_true rfl, Nat.le_of_ble_eq_true rfl⟩ ⟨Nat.le_of_ble_eq_true rfl, Nat.le_of_ble_eq_true rfl⟩ rfl (Nat.le_of_ble_eq_true rfl) dX8_pushed_112 (fun v_ f_ H locs hp_ hH hS => ?_)
                obtain ⟨rfl, ef_⟩ := hp_
                rw [ef_] at hH
                clear ef_
                refine W.eq (g2 := F0 m 115 ls [.int (nI (cO to i 1)), .int 4, .long (lN (t (cO to i 2))), .long (b4 (updN (prt t to (3 * i)) (cO to i 0) (t (cO to i 0))))]) rfl ?_
                refine lv_imul hx hb dX8_pushed_115 ?_
                refine lv_topi (fun v57 ev57 => ?_)
                replace ev57 : v57 = (4 * (nI (cO to i 1))) := ev57.trans (rfl)
                subst ev57
                refine lv_lshl hx hb dX8_pushed_116 rfl ?_
                refine lv_topl (fun v58 ev58 => ?_)
                replace ev58 : v58 = ((lN (t (cO to i 2))) <<< (((4 * (nI (cO to i 1)))).toInt64 &&& 63)) := ev58.trans (rfl)
                subst ev58
                refine lv_ladd hx hb dX8_pushed_117 ?_
                refine lv_topl (fun v59 ev59 => ?_)
                replace ev59 : v59 = b4 (updN (updN (prt t to (3 * i)) (cO to i 0) (t (cO to i 0))) (cO to i 1) (t (cO to i 2))) := ev59.trans (b4_add hk1 (nuz hn10 hz1))
                subst ev59
                refine lv_lstore (lv' := [(4, .long (b4 (updN (updN (prt t to (3 * i)) (cO to i 0) (t (cO to i 0))) (cO to i 1) (t (cO to i 2))))), (10, .int (nI (t (cO to i 2)))), (9, .int 2), (7, .int 1), (8, .int (nI (t (cO to i 0)))), (6, .int (nI i)), (0, .ref m0), (1, .long (b4 t)), (3, .int (nI to))]) hx hb dX8_pushed_118 hl (by decide) rfl (fun ls hl => ?_)
                refine lv_iload hx hb dX8_pushed_120 (lv_at hl 1 rfl) ?_
                refine lv_istore (lv' := [(8, .int (nI (t (cO to i 2)))), (4, .long (b4 (updN (updN (prt t to (3 * i)) (cO to i 0) (t (cO to i 0))) (cO to i 1) (t (cO to i 2))))), (10, .int (nI (t (cO to i 2)))), (9, .int 2), (7, .int 1), (6, .int (nI i)), (0, .ref m0), (1, .long (b4 t)), (3, .int (nI to))]) hx hb dX8_pushed_122 hl (by decide) rfl (fun ls hl => ?_)
                refine lv_iinc (v := 2) (lv' := [(7, .int 2), (8, .int (nI (t (cO to i 2)))), (4, .long (b4 (updN (updN (prt t to (3 * i)) (cO to i 0) (t (cO to i 0))) (cO to i 1) (t (cO to i 2))))), (10, .int (nI (t (cO to i 2)))), (9, .int 2), (6, .int (nI i)), (0, .ref m0), (1, .long (b4 t)), (3, .int (nI to))]) hx hb dX8_pushed_124 hl (k := 4) rfl (by decide) (by decide) rfl (fun ls hl => ?_)
                refine lv_iinc (v := 3) (lv' := [(9, .int 3), (7, .int 2), (8, .int (nI (t (cO to i 2)))), (4, .long (b4 (updN (updN (prt t to (3 * i)) (cO to i 0) (t (cO to i 0))) (cO to i 1) (t (cO to i 2))))), (10, .int (nI (t (cO to i 2)))), (6, .int (nI i)), (0, .ref m0), (1, .long (b4 t)), (3, .int (nI to))]) hx hb dX8_pushed_127 hl (k := 4) rfl (by decide) (by decide) rfl (fun ls hl => ?_)
                refine lv_goto (tgt := 26) hx hb dX8_pushed_130 (by decide) ?_
                refine lv_iload hx hb dX8_pushed_26 (lv_at hl 0 rfl) ?_
                refine lv_iconst (v := 3) hx hb dX8_pushed_28 (by decide) ?_
                refine lv_icmp_ge (tgt := 133) hx hb dX8_pushed_29 (by decide) (fun _ => ?_) (fun c60 => absurd (by decide) c60)
                refine lv_iinc (v := (nI (i + 1))) (lv' := [(6, .int ((nI (i + 1)))), (9, .int 3), (7, .int 2), (8, .int (nI (t (cO to i 2)))), (4, .long (b4 (updN (updN (prt t to (3 * i)) (cO to i 0) (t (cO to i 0))) (cO to i 1) (t (cO to i 2))))), (10, .int (nI (t (cO to i 2)))), (0, .ref m0), (1, .long (b4 t)), (3, .int (nI to))]) hx hb dX8_pushed_133 hl (k := 5) rfl (nI_1 i) (by decide) rfl (fun ls hl => ?_)
                refine lv_goto (tgt := 11) hx hb dX8_pushed_136 (by decide) ?_
                have g0 : ¬ (t (cO to i 0)) = 0 := (fun qq_ => c3 ((nI_eq (a := t (cO to i 0)) (b := 0) (by omega) (by omega)).mpr qq_))
                have g1 : (t (cO to i 1)) = 0 := (nI_eq (a := t (cO to i 1)) (b := 0) (by omega) (by omega)).mp c10
                have g2 : ¬ (t (cO to i 2)) = 0 := (fun qq_ => c54 ((nI_eq (a := t (cO to i 2)) (b := 0) (by omega) (by omega)).mpr qq_))
                have g3 : ¬ (t (cO to i 2)) = (t (cO to i 0)) := (fun qq_ => c55 ((nI_eq (a := t (cO to i 2)) (b := t (cO to i 0)) (by omega) (by omega)).mpr qq_))
                have hmg : mg (lineT t to i) = (t (cO to i 0), t (cO to i 2), 0) := by simp [lineT, gat, mg, g0, g1, g2, g3, (show ¬ _ = _ from fun q => g3 q.symm)]
                have hgn : gn (lineT t to i) = 0 := by simp [lineT, gat, gn, g0, g1, g2, g3, (show ¬ _ = _ from fun q => g3 q.symm)]
                have hgs : gsum t to (i + 1) = gsum t to i + gn (lineT t to i) := rfl
                subst efi
                have hH : hm_H Γ (hm_up f m0 (eM r mth mpl mga mtr mke mro mck mli mdz ((nI (gsum t to (i + 1)))) mhi mmi mfh msh msm mso msp mrf)) H := by rw [hgs, hgn]; exact hH
                refine ih (i + 1) (by omega) H locs hH hS ls ?_
                rw [lin2 hto hi3 hmg]
                exact lv_sub hl [0, 4, 6, 7, 8] rfl
              · refine lv_lload hx hb dX8_pushed_61 (lv_at hl 4 rfl) ?_
                refine lv_lconst (v := 1) hx hb dX8_pushed_63 (by decide) ?_
                refine lv_iconst (v := 4) hx hb dX8_pushed_64 (by decide) ?_
                refine lv_iload_n hx hb dX8_pushed_65 rfl (lv_at hl 8 rfl) ?_
                refine lv_iload hx hb dX8_pushed_66 (lv_at hl 5 rfl) ?_
                refine lv_iload hx hb dX8_pushed_68 (lv_at hl 2 rfl) ?_
                refine lv_iconst (v := 1) hx hb dX8_pushed_70 (by decide) ?_
                refine lv_isub hx hb dX8_pushed_71 ?_
                refine lv_topi (fun v61 ev61 => ?_)
                have ev61 : v61 = 0 := ev61.trans (by decide)
                subst ev61
                refine hm_callS (rest := [.int 4, .long 1, .long (b4 (updN (prt t to (3 * i)) (cO to i 0) (t (cO to i 0))))]) (k := 1) q5_158 q5_159 q1_9 q5_160 nm_X8_cellOf rfl hx hb hml hown hts hK hO hS hH hl.1 (c_X8_cellOf Γ l to i 0 fi hto hi3 (by decide)) ⟨Nat.le_of_ble_eq_true rfl, Nat.le_of_ble_eq_true rfl⟩ ⟨Nat.le_of_ble_eq_true rfl, Nat.le_of_ble_eq_true rfl⟩ rfl (Nat.le_of_ble_eq_true rfl) dX8_pushed_72 (fun v_ f_ H locs hp_ hH hS => ?_)
                obtain ⟨rfl, ef_⟩ := hp_
                rw [ef_] at hH
                clear ef_
                refine W.eq (g2 := F0 m 75 ls [.int (nI (cO to i 0)), .int 4, .long 1, .long (b4 (updN (prt t to (3 * i)) (cO to i 0) (t (cO to i 0))))]) rfl ?_
                refine lv_imul hx hb dX8_pushed_75 ?_
                refine lv_topi (fun v62 ev62 => ?_)
                replace ev62 : v62 = (4 * (nI (cO to i 0))) := ev62.trans (rfl)
                subst ev62
                refine lv_lshl hx hb dX8_pushed_76 rfl ?_
                refine lv_topl (fun v63 ev63 => ?_)
                replace ev63 : v63 = (1 <<< (((4 * (nI (cO to i 0)))).toInt64 &&& 63)) := ev63.trans (rfl)
                subst ev63
                refine lv_ladd hx hb dX8_pushed_77 ?_
                refine lv_topl (fun v64 ev64 => ?_)
                replace ev64 : v64 = b4 (updN (updN (prt t to (3 * i)) (cO to i 0) (t (cO to i 0))) (cO to i 0) ((t (cO to i 0)) + 1)) := ev64.trans (b4_inc hk0 nuv)
                subst ev64
                refine lv_lstore (lv' := [(4, .long (b4 (updN (updN (prt t to (3 * i)) (cO to i 0) (t (cO to i 0))) (cO to i 0) ((t (cO to i 0)) + 1)))), (10, .int (nI (t (cO to i 2)))), (9, .int 2), (7, .int 1), (8, .int (nI (t (cO to i 0)))), (6, .int (nI i)), (0, .ref m0), (1, .long (b4 t)), (3, .int (nI to))]) hx hb dX8_pushed_78 hl (by decide) rfl (fun ls hl => ?_)
                refine lv_aload_n hx hb dX8_pushed_80 rfl (lv_at hl 6 rfl) ?_
                refine lv_dup hx hb dX8_pushed_81 rfl ?_
                refine gf_X8_113 hx hb hts hown hK hH hmi rfl dX8_pushed_82 ?_
                refine lv_iconst (v := 1) hx hb dX8_pushed_85 (by decide) ?_
                refine lv_iload hx hb dX8_pushed_86 (lv_at hl 1 rfl) ?_
                refine lv_iconst (v := 1) hx hb dX8_pushed_88 (by decide) ?_
                refine lv_iadd hx hb dX8_pushed_89 ?_
                refine lv_topi (fun v65 ev65 => ?_)
                replace ev65 : v65 = nI (t (cO to i 2) + 1) := ev65.trans (nI_1 _)
                subst ev65
                refine lv_ishl hx hb dX8_pushed_90 ?_
                refine lv_topi (fun v66 ev66 => ?_)
                replace ev66 : v66 = nI (2 ^ (t (cO to i 2) + 1)) := ev66.trans (m_1shl _ (by omega))
                subst ev66
                refine lv_iadd hx hb dX8_pushed_91 ?_
                refine lv_topi (fun v67 ev67 => ?_)
                replace ev67 : v67 = nI (gsum t to i + 2 ^ (t (cO to i 2) + 1)) := ev67.trans (nI_add _ _)
                subst ev67
                refine pf_X8_113 hx hb hts hown hK hO hS hH hmi rfl (Nat.le_of_ble_eq_true rfl) rfl dX8_pushed_92 (fun H locs hH hS => ?_)
                obtain ⟨f68, ef68⟩ : ∃ zz_, zz_ = hm_up fi m0 (eM r mth mpl mga mtr mke mro mck mli mdz (nI (gsum t to i + 2 ^ (t (cO to i 2) + 1))) mhi mmi mfh msh msm mso msp mrf) := ⟨_, rfl⟩
                have hH : hm_H Γ f68 H := by rw [ef68]; exact hH
                have h69 : f68 m0 = some (eM r mth mpl mga mtr mke mro mck mli mdz (nI (gsum t to i + 2 ^ (t (cO to i 2) + 1))) mhi mmi mfh msh msm mso msp mrf) := by rw [ef68]; exact hm_us
                refine lv_iconst (v := 0) hx hb dX8_pushed_95 (by decide) ?_
                refine lv_istore (lv' := [(8, .int 0), (4, .long (b4 (updN (updN (prt t to (3 * i)) (cO to i 0) (t (cO to i 0))) (cO to i 0) ((t (cO to i 0)) + 1)))), (10, .int (nI (t (cO to i 2)))), (9, .int 2), (7, .int 1), (6, .int (nI i)), (0, .ref m0), (1, .long (b4 t)), (3, .int (nI to))]) hx hb dX8_pushed_96 hl (by decide) rfl (fun ls hl => ?_)
                refine lv_goto (tgt := 127) hx hb dX8_pushed_98 (by decide) ?_
                refine lv_iinc (v := 3) (lv' := [(9, .int 3), (8, .int 0), (4, .long (b4 (updN (updN (prt t to (3 * i)) (cO to i 0) (t (cO to i 0))) (cO to i 0) ((t (cO to i 0)) + 1)))), (10, .int (nI (t (cO to i 2)))), (7, .int 1), (6, .int (nI i)), (0, .ref m0), (1, .long (b4 t)), (3, .int (nI to))]) hx hb dX8_pushed_127 hl (k := 3) rfl (by decide) (by decide) rfl (fun ls hl => ?_)
                refine lv_goto (tgt := 26) hx hb dX8_pushed_130 (by decide) ?_
                refine lv_iload hx hb dX8_pushed_26 (lv_at hl 0 rfl) ?_
                refine lv_iconst (v := 3) hx hb dX8_pushed_28 (by decide) ?_
                refine lv_icmp_ge (tgt := 133) hx hb dX8_pushed_29 (by decide) (fun _ => ?_) (fun c70 => absurd (by decide) c70)
                refine lv_iinc (v := (nI (i + 1))) (lv' := [(6, .int ((nI (i + 1)))), (9, .int 3), (8, .int 0), (4, .long (b4 (updN (updN (prt t to (3 * i)) (cO to i 0) (t (cO to i 0))) (cO to i 0) ((t (cO to i 0)) + 1)))), (10, .int (nI (t (cO to i 2)))), (7, .int 1), (0, .ref m0), (1, .long (b4 t)), (3, .int (nI to))]) hx hb dX8_pushed_133 hl (k := 5) rfl (nI_1 i) (by decide) rfl (fun ls hl => ?_)
                refine lv_goto (tgt := 11) hx hb dX8_pushed_136 (by decide) ?_
                have g0 : ¬ (t (cO to i 0)) = 0 := (fun qq_ => c3 ((nI_eq (a := t (cO to i 0)) (b := 0) (by omega) (by omega)).mpr qq_))
                have g1 : (t (cO to i 1)) = 0 := (nI_eq (a := t (cO to i 1)) (b := 0) (by omega) (by omega)).mp c10
                have g2 : ¬ (t (cO to i 2)) = 0 := (fun qq_ => c54 ((nI_eq (a := t (cO to i 2)) (b := 0) (by omega) (by omega)).mpr qq_))
                have g3 : (t (cO to i 2)) = (t (cO to i 0)) := (nI_eq (a := t (cO to i 2)) (b := t (cO to i 0)) (by omega) (by omega)).mp c55
                have hmg : mg (lineT t to i) = ((t (cO to i 0)) + 1, 0, 0) := by simp [lineT, gat, mg, g0, g1, g2, g3]
                have hgn : gn (lineT t to i) = 2 ^ (t (cO to i 2) + 1) := by simp [lineT, gat, gn, g0, g1, g2, g3]
                have hgs : gsum t to (i + 1) = gsum t to i + gn (lineT t to i) := rfl
                subst ef68
                subst efi
                have hH : hm_H Γ (hm_up f m0 (eM r mth mpl mga mtr mke mro mck mli mdz ((nI (gsum t to (i + 1)))) mhi mmi mfh msh msm mso msp mrf)) H := by rw [hgs, hgn]; simp only [hm_uu] at hH; exact hH
                refine ih (i + 1) (by omega) H locs hH hS ls ?_
                rw [lin1 hto hi3 hmg]
                rw [nu1] at hl
                exact lv_sub hl [0, 3, 6, 7, 8] rfl
            · refine lv_goto (tgt := 127) hx hb dX8_pushed_51 (by decide) ?_
              refine lv_iinc (v := 3) (lv' := [(9, .int 3), (10, .int (nI (t (cO to i 2)))), (7, .int 1), (8, .int (nI (t (cO to i 0)))), (4, .long (b4 (updN (prt t to (3 * i)) (cO to i 0) (t (cO to i 0))))), (6, .int (nI i)), (0, .ref m0), (1, .long (b4 t)), (3, .int (nI to))]) hx hb dX8_pushed_127 hl (k := 1) rfl (by decide) (by decide) rfl (fun ls hl => ?_)
              refine lv_goto (tgt := 26) hx hb dX8_pushed_130 (by decide) ?_
              refine lv_iload hx hb dX8_pushed_26 (lv_at hl 0 rfl) ?_
              refine lv_iconst (v := 3) hx hb dX8_pushed_28 (by decide) ?_
              refine lv_icmp_ge (tgt := 133) hx hb dX8_pushed_29 (by decide) (fun _ => ?_) (fun c71 => absurd (by decide) c71)
              refine lv_iinc (v := (nI (i + 1))) (lv' := [(6, .int ((nI (i + 1)))), (9, .int 3), (10, .int (nI (t (cO to i 2)))), (7, .int 1), (8, .int (nI (t (cO to i 0)))), (4, .long (b4 (updN (prt t to (3 * i)) (cO to i 0) (t (cO to i 0))))), (0, .ref m0), (1, .long (b4 t)), (3, .int (nI to))]) hx hb dX8_pushed_133 hl (k := 5) rfl (nI_1 i) (by decide) rfl (fun ls hl => ?_)
              refine lv_goto (tgt := 11) hx hb dX8_pushed_136 (by decide) ?_
              have g0 : ¬ (t (cO to i 0)) = 0 := (fun qq_ => c3 ((nI_eq (a := t (cO to i 0)) (b := 0) (by omega) (by omega)).mpr qq_))
              have g1 : (t (cO to i 1)) = 0 := (nI_eq (a := t (cO to i 1)) (b := 0) (by omega) (by omega)).mp c10
              have g2 : (t (cO to i 2)) = 0 := (nI_eq (a := t (cO to i 2)) (b := 0) (by omega) (by omega)).mp c54
              have hmg : mg (lineT t to i) = (t (cO to i 0), 0, 0) := by simp [lineT, gat, mg, g0, g1, g2]
              have hgn : gn (lineT t to i) = 0 := by simp [lineT, gat, gn, g0, g1, g2]
              have hgs : gsum t to (i + 1) = gsum t to i + gn (lineT t to i) := rfl
              subst efi
              have hH : hm_H Γ (hm_up f m0 (eM r mth mpl mga mtr mke mro mck mli mdz ((nI (gsum t to (i + 1)))) mhi mmi mfh msh msm mso msp mrf)) H := by rw [hgs, hgn]; exact hH
              refine ih (i + 1) (by omega) H locs hH hS ls ?_
              rw [lin1 hto hi3 hmg]
              exact lv_sub hl [0, 5, 6, 7, 8] rfl
        · refine lv_goto (tgt := 127) hx hb dX8_pushed_51 (by decide) ?_
          refine lv_iinc (v := 1) (lv' := [(9, .int 1), (10, .int (nI (t (cO to i 0)))), (8, .int 0), (7, .int 0), (6, .int (nI i)), (4, .long (b4 (prt t to (3 * i)))), (0, .ref m0), (1, .long (b4 t)), (3, .int (nI to))]) hx hb dX8_pushed_127 hl (k := 1) rfl (by decide) (by decide) rfl (fun ls hl => ?_)
          refine lv_goto (tgt := 26) hx hb dX8_pushed_130 (by decide) ?_
          refine lv_iload hx hb dX8_pushed_26 (lv_at hl 0 rfl) ?_
          refine lv_iconst (v := 3) hx hb dX8_pushed_28 (by decide) ?_
          refine lv_icmp_ge (tgt := 133) hx hb dX8_pushed_29 (by decide) (fun c72 => absurd c72 (by decide)) (fun _ => ?_)
          refine lv_lload_n hx hb dX8_pushed_32 rfl (lv_at hl 7 rfl) ?_
          refine lv_iload_n hx hb dX8_pushed_33 rfl (lv_at hl 8 rfl) ?_
          refine lv_iload hx hb dX8_pushed_34 (lv_at hl 4 rfl) ?_
          refine lv_iload hx hb dX8_pushed_36 (lv_at hl 0 rfl) ?_
          refine hm_callS (rest := [.long (b4 t)]) (k := 1) q5_158 q5_159 q1_9 q5_160 nm_X8_cellOf rfl hx hb hml hown hts hK hO hS hH hl.1 (c_X8_cellOf Γ l to i 1 fi hto hi3 (by decide)) ⟨Nat.le_of_ble_eq_true rfl, Nat.le_of_ble_eq_true rfl⟩ ⟨Nat.le_of_ble_eq_true rfl, Nat.le_of_ble_eq_true rfl⟩ rfl (Nat.le_of_ble_eq_true rfl) dX8_pushed_38 (fun v_ f_ H locs hp_ hH hS => ?_)
          obtain ⟨rfl, ef_⟩ := hp_
          rw [ef_] at hH
          clear ef_
          refine W.eq (g2 := F0 m 41 ls [.int (nI (cO to i 1)), .long (b4 t)]) rfl ?_
          refine hm_callS (rest := []) (k := 1) q5_131 q5_132 q1_9 q5_133 nm_X8_tile rfl hx hb hml hown hts hK hO hS hH hl.1 (c_X8_tile Γ l t (cO to i 1) fi ht16 hk1) ⟨Nat.le_of_ble_eq_true rfl, Nat.le_of_ble_eq_true rfl⟩ ⟨Nat.le_of_ble_eq_true rfl, Nat.le_of_ble_eq_true rfl⟩ rfl (Nat.le_of_ble_eq_true rfl) dX8_pushed_41 (fun v_ f_ H locs hp_ hH hS => ?_)
          obtain ⟨rfl, ef_⟩ := hp_
          rw [ef_] at hH
          clear ef_
          refine W.eq (g2 := F0 m 44 ls [.int (nI (t (cO to i 1)))]) rfl ?_
          refine lv_istore (lv' := [(10, .int (nI (t (cO to i 1)))), (9, .int 1), (8, .int 0), (7, .int 0), (6, .int (nI i)), (4, .long (b4 (prt t to (3 * i)))), (0, .ref m0), (1, .long (b4 t)), (3, .int (nI to))]) hx hb dX8_pushed_44 hl (by decide) rfl (fun ls hl => ?_)
          refine lv_iload hx hb dX8_pushed_46 (lv_at hl 0 rfl) ?_
          refine lv_if_ne (tgt := 54) hx hb dX8_pushed_48 (by decide) (fun c73 => ?_) (fun c73 => ?_)
          · refine lv_iload hx hb dX8_pushed_54 (lv_at hl 0 rfl) ?_
            refine lv_iload hx hb dX8_pushed_56 (lv_at hl 2 rfl) ?_
            refine lv_icmp_ne (tgt := 101) hx hb dX8_pushed_58 (by decide) (fun _ => ?_) (fun c74 => absurd c74 (c73))
            refine lv_lload hx hb dX8_pushed_101 (lv_at hl 5 rfl) ?_
            refine lv_iload hx hb dX8_pushed_103 (lv_at hl 0 rfl) ?_
            refine lv_i2l hx hb dX8_pushed_105 rfl ?_
            refine lv_topl (fun v75 ev75 => ?_)
            replace ev75 : v75 = lN (t (cO to i 1)) := ev75.trans (nI_l (by omega))
            subst ev75
            refine lv_iconst (v := 4) hx hb dX8_pushed_106 (by decide) ?_
            refine lv_iload_n hx hb dX8_pushed_107 rfl (lv_at hl 8 rfl) ?_
            refine lv_iload hx hb dX8_pushed_108 (lv_at hl 4 rfl) ?_
            refine lv_iload hx hb dX8_pushed_110 (lv_at hl 3 rfl) ?_
            refine hm_callS (rest := [.int 4, .long (lN (t (cO to i 1))), .long (b4 (prt t to (3 * i)))]) (k := 1) q5_158 q5_159 q1_9 q5_160 nm_X8_cellOf rfl hx hb hml hown hts hK hO hS hH hl.1 (c_X8_cellOf Γ l to i 0 fi hto hi3 (by decide)) ⟨Nat.le_of_ble_eq_true rfl, Nat.le_of_ble_eq_true rfl⟩ ⟨Nat.le_of_ble_eq_true rfl, Nat.le_of_ble_eq_true rfl⟩ rfl (Nat.le_of_ble_eq_true rfl) dX8_pushed_112 (fun v_ f_ H locs hp_ hH hS => ?_)
            obtain ⟨rfl, ef_⟩ := hp_
            rw [ef_] at hH
            clear ef_
            refine W.eq (g2 := F0 m 115 ls [.int (nI (cO to i 0)), .int 4, .long (lN (t (cO to i 1))), .long (b4 (prt t to (3 * i)))]) rfl ?_
            refine lv_imul hx hb dX8_pushed_115 ?_
            refine lv_topi (fun v76 ev76 => ?_)
            replace ev76 : v76 = (4 * (nI (cO to i 0))) := ev76.trans (rfl)
            subst ev76
            refine lv_lshl hx hb dX8_pushed_116 rfl ?_
            refine lv_topl (fun v77 ev77 => ?_)
            replace ev77 : v77 = ((lN (t (cO to i 1))) <<< (((4 * (nI (cO to i 0)))).toInt64 &&& 63)) := ev77.trans (rfl)
            subst ev77
            refine lv_ladd hx hb dX8_pushed_117 ?_
            refine lv_topl (fun v78 ev78 => ?_)
            replace ev78 : v78 = b4 (updN (prt t to (3 * i)) (cO to i 0) (t (cO to i 1))) := ev78.trans (b4_add hk0 hz0)
            subst ev78
            refine lv_lstore (lv' := [(4, .long (b4 (updN (prt t to (3 * i)) (cO to i 0) (t (cO to i 1))))), (10, .int (nI (t (cO to i 1)))), (9, .int 1), (8, .int 0), (7, .int 0), (6, .int (nI i)), (0, .ref m0), (1, .long (b4 t)), (3, .int (nI to))]) hx hb dX8_pushed_118 hl (by decide) rfl (fun ls hl => ?_)
            refine lv_iload hx hb dX8_pushed_120 (lv_at hl 1 rfl) ?_
            refine lv_istore (lv' := [(8, .int (nI (t (cO to i 1)))), (4, .long (b4 (updN (prt t to (3 * i)) (cO to i 0) (t (cO to i 1))))), (10, .int (nI (t (cO to i 1)))), (9, .int 1), (7, .int 0), (6, .int (nI i)), (0, .ref m0), (1, .long (b4 t)), (3, .int (nI to))]) hx hb dX8_pushed_122 hl (by decide) rfl (fun ls hl => ?_)
            refine lv_iinc (v := 1) (lv' := [(7, .int 1), (8, .int (nI (t (cO to i 1)))), (4, .long (b4 (updN (prt t to (3 * i)) (cO to i 0) (t (cO to i 1))))), (10, .int (nI (t (cO to i 1)))), (9, .int 1), (6, .int (nI i)), (0, .ref m0), (1, .long (b4 t)), (3, .int (nI to))]) hx hb dX8_pushed_124 hl (k := 4) rfl (by decide) (by decide) rfl (fun ls hl => ?_)
            refine lv_iinc (v := 2) (lv' := [(9, .int 2), (7, .int 1), (8, .int (nI (t (cO to i 1)))), (4, .long (b4 (updN (prt t to (3 * i)) (cO to i 0) (t (cO to i 1))))), (10, .int (nI (t (cO to i 1)))), (6, .int (nI i)), (0, .ref m0), (1, .long (b4 t)), (3, .int (nI to))]) hx hb dX8_pushed_127 hl (k := 4) rfl (by decide) (by decide) rfl (fun ls hl => ?_)
            refine lv_goto (tgt := 26) hx hb dX8_pushed_130 (by decide) ?_
            refine lv_iload hx hb dX8_pushed_26 (lv_at hl 0 rfl) ?_
            refine lv_iconst (v := 3) hx hb dX8_pushed_28 (by decide) ?_
            refine lv_icmp_ge (tgt := 133) hx hb dX8_pushed_29 (by decide) (fun c79 => absurd c79 (by decide)) (fun _ => ?_)
            refine lv_lload_n hx hb dX8_pushed_32 rfl (lv_at hl 7 rfl) ?_
            refine lv_iload_n hx hb dX8_pushed_33 rfl (lv_at hl 8 rfl) ?_
            refine lv_iload hx hb dX8_pushed_34 (lv_at hl 5 rfl) ?_
            refine lv_iload hx hb dX8_pushed_36 (lv_at hl 0 rfl) ?_
            refine hm_callS (rest := [.long (b4 t)]) (k := 1) q5_158 q5_159 q1_9 q5_160 nm_X8_cellOf rfl hx hb hml hown hts hK hO hS hH hl.1 (c_X8_cellOf Γ l to i 2 fi hto hi3 (by decide)) ⟨Nat.le_of_ble_eq_true rfl, Nat.le_of_ble_eq_true rfl⟩ ⟨Nat.le_of_ble_eq_true rfl, Nat.le_of_ble_eq_true rfl⟩ rfl (Nat.le_of_ble_eq_true rfl) dX8_pushed_38 (fun v_ f_ H locs hp_ hH hS => ?_)
            obtain ⟨rfl, ef_⟩ := hp_
            rw [ef_] at hH
            clear ef_
            refine W.eq (g2 := F0 m 41 ls [.int (nI (cO to i 2)), .long (b4 t)]) rfl ?_
            refine hm_callS (rest := []) (k := 1) q5_131 q5_132 q1_9 q5_133 nm_X8_tile rfl hx hb hml hown hts hK hO hS hH hl.1 (c_X8_tile Γ l t (cO to i 2) fi ht16 hk2) ⟨Nat.le_of_ble_eq_true rfl, Nat.le_of_ble_eq_true rfl⟩ ⟨Nat.le_of_ble_eq_true rfl, Nat.le_of_ble_eq_true rfl⟩ rfl (Nat.le_of_ble_eq_true rfl) dX8_pushed_41 (fun v_ f_ H locs hp_ hH hS => ?_)
            obtain ⟨rfl, ef_⟩ := hp_
            rw [ef_] at hH
            clear ef_
            refine W.eq (g2 := F0 m 44 ls [.int (nI (t (cO to i 2)))]) rfl ?_
            refine lv_istore (lv' := [(10, .int (nI (t (cO to i 2)))), (9, .int 2), (7, .int 1), (8, .int (nI (t (cO to i 1)))), (4, .long (b4 (updN (prt t to (3 * i)) (cO to i 0) (t (cO to i 1))))), (6, .int (nI i)), (0, .ref m0), (1, .long (b4 t)), (3, .int (nI to))]) hx hb dX8_pushed_44 hl (by decide) rfl (fun ls hl => ?_)
            refine lv_iload hx hb dX8_pushed_46 (lv_at hl 0 rfl) ?_
            refine lv_if_ne (tgt := 54) hx hb dX8_pushed_48 (by decide) (fun c80 => ?_) (fun c80 => ?_)
            · refine lv_iload hx hb dX8_pushed_54 (lv_at hl 0 rfl) ?_
              refine lv_iload hx hb dX8_pushed_56 (lv_at hl 3 rfl) ?_
              refine lv_icmp_ne (tgt := 101) hx hb dX8_pushed_58 (by decide) (fun c81 => ?_) (fun c81 => ?_)
              · refine lv_lload hx hb dX8_pushed_101 (lv_at hl 4 rfl) ?_
                refine lv_iload hx hb dX8_pushed_103 (lv_at hl 0 rfl) ?_
                refine lv_i2l hx hb dX8_pushed_105 rfl ?_
                refine lv_topl (fun v82 ev82 => ?_)
                replace ev82 : v82 = lN (t (cO to i 2)) := ev82.trans (nI_l (by omega))
                subst ev82
                refine lv_iconst (v := 4) hx hb dX8_pushed_106 (by decide) ?_
                refine lv_iload_n hx hb dX8_pushed_107 rfl (lv_at hl 8 rfl) ?_
                refine lv_iload hx hb dX8_pushed_108 (lv_at hl 5 rfl) ?_
                refine lv_iload hx hb dX8_pushed_110 (lv_at hl 2 rfl) ?_
                refine hm_callS (rest := [.int 4, .long (lN (t (cO to i 2))), .long (b4 (updN (prt t to (3 * i)) (cO to i 0) (t (cO to i 1))))]) (k := 1) q5_158 q5_159 q1_9 q5_160 nm_X8_cellOf rfl hx hb hml hown hts hK hO hS hH hl.1 (c_X8_cellOf Γ l to i 1 fi hto hi3 (by decide)) ⟨Nat.le_of_ble_eq_true rfl, Nat.le_of_ble_eq_true rfl⟩ ⟨Nat.le_of_ble_eq_true rfl, Nat.le_of_ble_eq_true rfl⟩ rfl (Nat.le_of_ble_eq_true rfl) dX8_pushed_112 (fun v_ f_ H locs hp_ hH hS => ?_)
                obtain ⟨rfl, ef_⟩ := hp_
                rw [ef_] at hH
                clear ef_
                refine W.eq (g2 := F0 m 115 ls [.int (nI (cO to i 1)), .int 4, .long (lN (t (cO to i 2))), .long (b4 (updN (prt t to (3 * i)) (cO to i 0) (t (cO to i 1))))]) rfl ?_
                refine lv_imul hx hb dX8_pushed_115 ?_
                refine lv_topi (fun v83 ev83 => ?_)
                replace ev83 : v83 = (4 * (nI (cO to i 1))) := ev83.trans (rfl)
                subst ev83
                refine lv_lshl hx hb dX8_pushed_116 rfl ?_
                refine lv_topl (fun v84 ev84 => ?_)
                replace ev84 : v84 = ((lN (t (cO to i 2))) <<< (((4 * (nI (cO to i 1)))).toInt64 &&& 63)) := ev84.trans (rfl)
                subst ev84
                refine lv_ladd hx hb dX8_pushed_117 ?_
                refine lv_topl (fun v85 ev85 => ?_)
                replace ev85 : v85 = b4 (updN (updN (prt t to (3 * i)) (cO to i 0) (t (cO to i 1))) (cO to i 1) (t (cO to i 2))) := ev85.trans (b4_add hk1 (nuz hn10 hz1))
                subst ev85
                refine lv_lstore (lv' := [(4, .long (b4 (updN (updN (prt t to (3 * i)) (cO to i 0) (t (cO to i 1))) (cO to i 1) (t (cO to i 2))))), (10, .int (nI (t (cO to i 2)))), (9, .int 2), (7, .int 1), (8, .int (nI (t (cO to i 1)))), (6, .int (nI i)), (0, .ref m0), (1, .long (b4 t)), (3, .int (nI to))]) hx hb dX8_pushed_118 hl (by decide) rfl (fun ls hl => ?_)
                refine lv_iload hx hb dX8_pushed_120 (lv_at hl 1 rfl) ?_
                refine lv_istore (lv' := [(8, .int (nI (t (cO to i 2)))), (4, .long (b4 (updN (updN (prt t to (3 * i)) (cO to i 0) (t (cO to i 1))) (cO to i 1) (t (cO to i 2))))), (10, .int (nI (t (cO to i 2)))), (9, .int 2), (7, .int 1), (6, .int (nI i)), (0, .ref m0), (1, .long (b4 t)), (3, .int (nI to))]) hx hb dX8_pushed_122 hl (by decide) rfl (fun ls hl => ?_)
                refine lv_iinc (v := 2) (lv' := [(7, .int 2), (8, .int (nI (t (cO to i 2)))), (4, .long (b4 (updN (updN (prt t to (3 * i)) (cO to i 0) (t (cO to i 1))) (cO to i 1) (t (cO to i 2))))), (10, .int (nI (t (cO to i 2)))), (9, .int 2), (6, .int (nI i)), (0, .ref m0), (1, .long (b4 t)), (3, .int (nI to))]) hx hb dX8_pushed_124 hl (k := 4) rfl (by decide) (by decide) rfl (fun ls hl => ?_)
                refine lv_iinc (v := 3) (lv' := [(9, .int 3), (7, .int 2), (8, .int (nI (t (cO to i 2)))), (4, .long (b4 (updN (updN (prt t to (3 * i)) (cO to i 0) (t (cO to i 1))) (cO to i 1) (t (cO to i 2))))), (10, .int (nI (t (cO to i 2)))), (6, .int (nI i)), (0, .ref m0), (1, .long (b4 t)), (3, .int (nI to))]) hx hb dX8_pushed_127 hl (k := 4) rfl (by decide) (by decide) rfl (fun ls hl => ?_)
                refine lv_goto (tgt := 26) hx hb dX8_pushed_130 (by decide) ?_
                refine lv_iload hx hb dX8_pushed_26 (lv_at hl 0 rfl) ?_
                refine lv_iconst (v := 3) hx hb dX8_pushed_28 (by decide) ?_
                refine lv_icmp_ge (tgt := 133) hx hb dX8_pushed_29 (by decide) (fun _ => ?_) (fun c86 => absurd (by decide) c86)
                refine lv_iinc (v := (nI (i + 1))) (lv' := [(6, .int ((nI (i + 1)))), (9, .int 3), (7, .int 2), (8, .int (nI (t (cO to i 2)))), (4, .long (b4 (updN (updN (prt t to (3 * i)) (cO to i 0) (t (cO to i 1))) (cO to i 1) (t (cO to i 2))))), (10, .int (nI (t (cO to i 2)))), (0, .ref m0), (1, .long (b4 t)), (3, .int (nI to))]) hx hb dX8_pushed_133 hl (k := 5) rfl (nI_1 i) (by decide) rfl (fun ls hl => ?_)
                refine lv_goto (tgt := 11) hx hb dX8_pushed_136 (by decide) ?_
                have g0 : (t (cO to i 0)) = 0 := (nI_eq (a := t (cO to i 0)) (b := 0) (by omega) (by omega)).mp c3
                have g1 : ¬ (t (cO to i 1)) = 0 := (fun qq_ => c73 ((nI_eq (a := t (cO to i 1)) (b := 0) (by omega) (by omega)).mpr qq_))
                have g2 : ¬ (t (cO to i 2)) = 0 := (fun qq_ => c80 ((nI_eq (a := t (cO to i 2)) (b := 0) (by omega) (by omega)).mpr qq_))
                have g3 : ¬ (t (cO to i 2)) = (t (cO to i 1)) := (fun qq_ => c81 ((nI_eq (a := t (cO to i 2)) (b := t (cO to i 1)) (by omega) (by omega)).mpr qq_))
                have hmg : mg (lineT t to i) = (t (cO to i 1), t (cO to i 2), 0) := by simp [lineT, gat, mg, g0, g1, g2, g3, (show ¬ _ = _ from fun q => g3 q.symm)]
                have hgn : gn (lineT t to i) = 0 := by simp [lineT, gat, gn, g0, g1, g2, g3, (show ¬ _ = _ from fun q => g3 q.symm)]
                have hgs : gsum t to (i + 1) = gsum t to i + gn (lineT t to i) := rfl
                subst efi
                have hH : hm_H Γ (hm_up f m0 (eM r mth mpl mga mtr mke mro mck mli mdz ((nI (gsum t to (i + 1)))) mhi mmi mfh msh msm mso msp mrf)) H := by rw [hgs, hgn]; exact hH
                refine ih (i + 1) (by omega) H locs hH hS ls ?_
                rw [lin2 hto hi3 hmg]
                exact lv_sub hl [0, 4, 6, 7, 8] rfl
              · refine lv_lload hx hb dX8_pushed_61 (lv_at hl 4 rfl) ?_
                refine lv_lconst (v := 1) hx hb dX8_pushed_63 (by decide) ?_
                refine lv_iconst (v := 4) hx hb dX8_pushed_64 (by decide) ?_
                refine lv_iload_n hx hb dX8_pushed_65 rfl (lv_at hl 8 rfl) ?_
                refine lv_iload hx hb dX8_pushed_66 (lv_at hl 5 rfl) ?_
                refine lv_iload hx hb dX8_pushed_68 (lv_at hl 2 rfl) ?_
                refine lv_iconst (v := 1) hx hb dX8_pushed_70 (by decide) ?_
                refine lv_isub hx hb dX8_pushed_71 ?_
                refine lv_topi (fun v87 ev87 => ?_)
                have ev87 : v87 = 0 := ev87.trans (by decide)
                subst ev87
                refine hm_callS (rest := [.int 4, .long 1, .long (b4 (updN (prt t to (3 * i)) (cO to i 0) (t (cO to i 1))))]) (k := 1) q5_158 q5_159 q1_9 q5_160 nm_X8_cellOf rfl hx hb hml hown hts hK hO hS hH hl.1 (c_X8_cellOf Γ l to i 0 fi hto hi3 (by decide)) ⟨Nat.le_of_ble_eq_true rfl, Nat.le_of_ble_eq_true rfl⟩ ⟨Nat.le_of_ble_eq_true rfl, Nat.le_of_ble_eq_true rfl⟩ rfl (Nat.le_of_ble_eq_true rfl) dX8_pushed_72 (fun v_ f_ H locs hp_ hH hS => ?_)
                obtain ⟨rfl, ef_⟩ := hp_
                rw [ef_] at hH
                clear ef_
                refine W.eq (g2 := F0 m 75 ls [.int (nI (cO to i 0)), .int 4, .long 1, .long (b4 (updN (prt t to (3 * i)) (cO to i 0) (t (cO to i 1))))]) rfl ?_
                refine lv_imul hx hb dX8_pushed_75 ?_
                refine lv_topi (fun v88 ev88 => ?_)
                replace ev88 : v88 = (4 * (nI (cO to i 0))) := ev88.trans (rfl)
                subst ev88
                refine lv_lshl hx hb dX8_pushed_76 rfl ?_
                refine lv_topl (fun v89 ev89 => ?_)
                replace ev89 : v89 = (1 <<< (((4 * (nI (cO to i 0)))).toInt64 &&& 63)) := ev89.trans (rfl)
                subst ev89
                refine lv_ladd hx hb dX8_pushed_77 ?_
                refine lv_topl (fun v90 ev90 => ?_)
                replace ev90 : v90 = b4 (updN (updN (prt t to (3 * i)) (cO to i 0) (t (cO to i 1))) (cO to i 0) ((t (cO to i 1)) + 1)) := ev90.trans (b4_inc hk0 nuv)
                subst ev90
                refine lv_lstore (lv' := [(4, .long (b4 (updN (updN (prt t to (3 * i)) (cO to i 0) (t (cO to i 1))) (cO to i 0) ((t (cO to i 1)) + 1)))), (10, .int (nI (t (cO to i 2)))), (9, .int 2), (7, .int 1), (8, .int (nI (t (cO to i 1)))), (6, .int (nI i)), (0, .ref m0), (1, .long (b4 t)), (3, .int (nI to))]) hx hb dX8_pushed_78 hl (by decide) rfl (fun ls hl => ?_)
                refine lv_aload_n hx hb dX8_pushed_80 rfl (lv_at hl 6 rfl) ?_
                refine lv_dup hx hb dX8_pushed_81 rfl ?_
                refine gf_X8_113 hx hb hts hown hK hH hmi rfl dX8_pushed_82 ?_
                refine lv_iconst (v := 1) hx hb dX8_pushed_85 (by decide) ?_
                refine lv_iload hx hb dX8_pushed_86 (lv_at hl 1 rfl) ?_
                refine lv_iconst (v := 1) hx hb dX8_pushed_88 (by decide) ?_
                refine lv_iadd hx hb dX8_pushed_89 ?_
                refine lv_topi (fun v91 ev91 => ?_)
                replace ev91 : v91 = nI (t (cO to i 2) + 1) := ev91.trans (nI_1 _)
                subst ev91
                refine lv_ishl hx hb dX8_pushed_90 ?_
                refine lv_topi (fun v92 ev92 => ?_)
                replace ev92 : v92 = nI (2 ^ (t (cO to i 2) + 1)) := ev92.trans (m_1shl _ (by omega))
                subst ev92
                refine lv_iadd hx hb dX8_pushed_91 ?_
                refine lv_topi (fun v93 ev93 => ?_)
                replace ev93 : v93 = nI (gsum t to i + 2 ^ (t (cO to i 2) + 1)) := ev93.trans (nI_add _ _)
                subst ev93
                refine pf_X8_113 hx hb hts hown hK hO hS hH hmi rfl (Nat.le_of_ble_eq_true rfl) rfl dX8_pushed_92 (fun H locs hH hS => ?_)
                obtain ⟨f94, ef94⟩ : ∃ zz_, zz_ = hm_up fi m0 (eM r mth mpl mga mtr mke mro mck mli mdz (nI (gsum t to i + 2 ^ (t (cO to i 2) + 1))) mhi mmi mfh msh msm mso msp mrf) := ⟨_, rfl⟩
                have hH : hm_H Γ f94 H := by rw [ef94]; exact hH
                have h95 : f94 m0 = some (eM r mth mpl mga mtr mke mro mck mli mdz (nI (gsum t to i + 2 ^ (t (cO to i 2) + 1))) mhi mmi mfh msh msm mso msp mrf) := by rw [ef94]; exact hm_us
                refine lv_iconst (v := 0) hx hb dX8_pushed_95 (by decide) ?_
                refine lv_istore (lv' := [(8, .int 0), (4, .long (b4 (updN (updN (prt t to (3 * i)) (cO to i 0) (t (cO to i 1))) (cO to i 0) ((t (cO to i 1)) + 1)))), (10, .int (nI (t (cO to i 2)))), (9, .int 2), (7, .int 1), (6, .int (nI i)), (0, .ref m0), (1, .long (b4 t)), (3, .int (nI to))]) hx hb dX8_pushed_96 hl (by decide) rfl (fun ls hl => ?_)
                refine lv_goto (tgt := 127) hx hb dX8_pushed_98 (by decide) ?_
                refine lv_iinc (v := 3) (lv' := [(9, .int 3), (8, .int 0), (4, .long (b4 (updN (updN (prt t to (3 * i)) (cO to i 0) (t (cO to i 1))) (cO to i 0) ((t (cO to i 1)) + 1)))), (10, .int (nI (t (cO to i 2)))), (7, .int 1), (6, .int (nI i)), (0, .ref m0), (1, .long (b4 t)), (3, .int (nI to))]) hx hb dX8_pushed_127 hl (k := 3) rfl (by decide) (by decide) rfl (fun ls hl => ?_)
                refine lv_goto (tgt := 26) hx hb dX8_pushed_130 (by decide) ?_
                refine lv_iload hx hb dX8_pushed_26 (lv_at hl 0 rfl) ?_
                refine lv_iconst (v := 3) hx hb dX8_pushed_28 (by decide) ?_
                refine lv_icmp_ge (tgt := 133) hx hb dX8_pushed_29 (by decide) (fun _ => ?_) (fun c96 => absurd (by decide) c96)
                refine lv_iinc (v := (nI (i + 1))) (lv' := [(6, .int ((nI (i + 1)))), (9, .int 3), (8, .int 0), (4, .long (b4 (updN (updN (prt t to (3 * i)) (cO to i 0) (t (cO to i 1))) (cO to i 0) ((t (cO to i 1)) + 1)))), (10, .int (nI (t (cO to i 2)))), (7, .int 1), (0, .ref m0), (1, .long (b4 t)), (3, .int (nI to))]) hx hb dX8_pushed_133 hl (k := 5) rfl (nI_1 i) (by decide) rfl (fun ls hl => ?_)
                refine lv_goto (tgt := 11) hx hb dX8_pushed_136 (by decide) ?_
                have g0 : (t (cO to i 0)) = 0 := (nI_eq (a := t (cO to i 0)) (b := 0) (by omega) (by omega)).mp c3
                have g1 : ¬ (t (cO to i 1)) = 0 := (fun qq_ => c73 ((nI_eq (a := t (cO to i 1)) (b := 0) (by omega) (by omega)).mpr qq_))
                have g2 : ¬ (t (cO to i 2)) = 0 := (fun qq_ => c80 ((nI_eq (a := t (cO to i 2)) (b := 0) (by omega) (by omega)).mpr qq_))
                have g3 : (t (cO to i 2)) = (t (cO to i 1)) := (nI_eq (a := t (cO to i 2)) (b := t (cO to i 1)) (by omega) (by omega)).mp c81
                have hmg : mg (lineT t to i) = ((t (cO to i 1)) + 1, 0, 0) := by simp [lineT, gat, mg, g0, g1, g2, g3]
                have hgn : gn (lineT t to i) = 2 ^ (t (cO to i 2) + 1) := by simp [lineT, gat, gn, g0, g1, g2, g3]
                have hgs : gsum t to (i + 1) = gsum t to i + gn (lineT t to i) := rfl
                subst ef94
                subst efi
                have hH : hm_H Γ (hm_up f m0 (eM r mth mpl mga mtr mke mro mck mli mdz ((nI (gsum t to (i + 1)))) mhi mmi mfh msh msm mso msp mrf)) H := by rw [hgs, hgn]; simp only [hm_uu] at hH; exact hH
                refine ih (i + 1) (by omega) H locs hH hS ls ?_
                rw [lin1 hto hi3 hmg]
                rw [nu1] at hl
                exact lv_sub hl [0, 3, 6, 7, 8] rfl
            · refine lv_goto (tgt := 127) hx hb dX8_pushed_51 (by decide) ?_
              refine lv_iinc (v := 3) (lv' := [(9, .int 3), (10, .int (nI (t (cO to i 2)))), (7, .int 1), (8, .int (nI (t (cO to i 1)))), (4, .long (b4 (updN (prt t to (3 * i)) (cO to i 0) (t (cO to i 1))))), (6, .int (nI i)), (0, .ref m0), (1, .long (b4 t)), (3, .int (nI to))]) hx hb dX8_pushed_127 hl (k := 1) rfl (by decide) (by decide) rfl (fun ls hl => ?_)
              refine lv_goto (tgt := 26) hx hb dX8_pushed_130 (by decide) ?_
              refine lv_iload hx hb dX8_pushed_26 (lv_at hl 0 rfl) ?_
              refine lv_iconst (v := 3) hx hb dX8_pushed_28 (by decide) ?_
              refine lv_icmp_ge (tgt := 133) hx hb dX8_pushed_29 (by decide) (fun _ => ?_) (fun c97 => absurd (by decide) c97)
              refine lv_iinc (v := (nI (i + 1))) (lv' := [(6, .int ((nI (i + 1)))), (9, .int 3), (10, .int (nI (t (cO to i 2)))), (7, .int 1), (8, .int (nI (t (cO to i 1)))), (4, .long (b4 (updN (prt t to (3 * i)) (cO to i 0) (t (cO to i 1))))), (0, .ref m0), (1, .long (b4 t)), (3, .int (nI to))]) hx hb dX8_pushed_133 hl (k := 5) rfl (nI_1 i) (by decide) rfl (fun ls hl => ?_)
              refine lv_goto (tgt := 11) hx hb dX8_pushed_136 (by decide) ?_
              have g0 : (t (cO to i 0)) = 0 := (nI_eq (a := t (cO to i 0)) (b := 0) (by omega) (by omega)).mp c3
              have g1 : ¬ (t (cO to i 1)) = 0 := (fun qq_ => c73 ((nI_eq (a := t (cO to i 1)) (b := 0) (by omega) (by omega)).mpr qq_))
              have g2 : (t (cO to i 2)) = 0 := (nI_eq (a := t (cO to i 2)) (b := 0) (by omega) (by omega)).mp c80
              have hmg : mg (lineT t to i) = (t (cO to i 1), 0, 0) := by simp [lineT, gat, mg, g0, g1, g2]
              have hgn : gn (lineT t to i) = 0 := by simp [lineT, gat, gn, g0, g1, g2]
              have hgs : gsum t to (i + 1) = gsum t to i + gn (lineT t to i) := rfl
              subst efi
              have hH : hm_H Γ (hm_up f m0 (eM r mth mpl mga mtr mke mro mck mli mdz ((nI (gsum t to (i + 1)))) mhi mmi mfh msh msm mso msp mrf)) H := by rw [hgs, hgn]; exact hH
              refine ih (i + 1) (by omega) H locs hH hS ls ?_
              rw [lin1 hto hi3 hmg]
              exact lv_sub hl [0, 5, 6, 7, 8] rfl
          · refine lv_goto (tgt := 127) hx hb dX8_pushed_51 (by decide) ?_
            refine lv_iinc (v := 2) (lv' := [(9, .int 2), (10, .int (nI (t (cO to i 1)))), (8, .int 0), (7, .int 0), (6, .int (nI i)), (4, .long (b4 (prt t to (3 * i)))), (0, .ref m0), (1, .long (b4 t)), (3, .int (nI to))]) hx hb dX8_pushed_127 hl (k := 1) rfl (by decide) (by decide) rfl (fun ls hl => ?_)
            refine lv_goto (tgt := 26) hx hb dX8_pushed_130 (by decide) ?_
            refine lv_iload hx hb dX8_pushed_26 (lv_at hl 0 rfl) ?_
            refine lv_iconst (v := 3) hx hb dX8_pushed_28 (by decide) ?_
            refine lv_icmp_ge (tgt := 133) hx hb dX8_pushed_29 (by decide) (fun c98 => absurd c98 (by decide)) (fun _ => ?_)
            refine lv_lload_n hx hb dX8_pushed_32 rfl (lv_at hl 7 rfl) ?_
            refine lv_iload_n hx hb dX8_pushed_33 rfl (lv_at hl 8 rfl) ?_
            refine lv_iload hx hb dX8_pushed_34 (lv_at hl 4 rfl) ?_
            refine lv_iload hx hb dX8_pushed_36 (lv_at hl 0 rfl) ?_
            refine hm_callS (rest := [.long (b4 t)]) (k := 1) q5_158 q5_159 q1_9 q5_160 nm_X8_cellOf rfl hx hb hml hown hts hK hO hS hH hl.1 (c_X8_cellOf Γ l to i 2 fi hto hi3 (by decide)) ⟨Nat.le_of_ble_eq_true rfl, Nat.le_of_ble_eq_true rfl⟩ ⟨Nat.le_of_ble_eq_true rfl, Nat.le_of_ble_eq_true rfl⟩ rfl (Nat.le_of_ble_eq_true rfl) dX8_pushed_38 (fun v_ f_ H locs hp_ hH hS => ?_)
            obtain ⟨rfl, ef_⟩ := hp_
            rw [ef_] at hH
            clear ef_
            refine W.eq (g2 := F0 m 41 ls [.int (nI (cO to i 2)), .long (b4 t)]) rfl ?_
            refine hm_callS (rest := []) (k := 1) q5_131 q5_132 q1_9 q5_133 nm_X8_tile rfl hx hb hml hown hts hK hO hS hH hl.1 (c_X8_tile Γ l t (cO to i 2) fi ht16 hk2) ⟨Nat.le_of_ble_eq_true rfl, Nat.le_of_ble_eq_true rfl⟩ ⟨Nat.le_of_ble_eq_true rfl, Nat.le_of_ble_eq_true rfl⟩ rfl (Nat.le_of_ble_eq_true rfl) dX8_pushed_41 (fun v_ f_ H locs hp_ hH hS => ?_)
            obtain ⟨rfl, ef_⟩ := hp_
            rw [ef_] at hH
            clear ef_
            refine W.eq (g2 := F0 m 44 ls [.int (nI (t (cO to i 2)))]) rfl ?_
            refine lv_istore (lv' := [(10, .int (nI (t (cO to i 2)))), (9, .int 2), (8, .int 0), (7, .int 0), (6, .int (nI i)), (4, .long (b4 (prt t to (3 * i)))), (0, .ref m0), (1, .long (b4 t)), (3, .int (nI to))]) hx hb dX8_pushed_44 hl (by decide) rfl (fun ls hl => ?_)
            refine lv_iload hx hb dX8_pushed_46 (lv_at hl 0 rfl) ?_
            refine lv_if_ne (tgt := 54) hx hb dX8_pushed_48 (by decide) (fun c99 => ?_) (fun c99 => ?_)
            · refine lv_iload hx hb dX8_pushed_54 (lv_at hl 0 rfl) ?_
              refine lv_iload hx hb dX8_pushed_56 (lv_at hl 2 rfl) ?_
              refine lv_icmp_ne (tgt := 101) hx hb dX8_pushed_58 (by decide) (fun _ => ?_) (fun c100 => absurd c100 (c99))
              refine lv_lload hx hb dX8_pushed_101 (lv_at hl 5 rfl) ?_
              refine lv_iload hx hb dX8_pushed_103 (lv_at hl 0 rfl) ?_
              refine lv_i2l hx hb dX8_pushed_105 rfl ?_
              refine lv_topl (fun v101 ev101 => ?_)
              replace ev101 : v101 = lN (t (cO to i 2)) := ev101.trans (nI_l (by omega))
              subst ev101
              refine lv_iconst (v := 4) hx hb dX8_pushed_106 (by decide) ?_
              refine lv_iload_n hx hb dX8_pushed_107 rfl (lv_at hl 8 rfl) ?_
              refine lv_iload hx hb dX8_pushed_108 (lv_at hl 4 rfl) ?_
              refine lv_iload hx hb dX8_pushed_110 (lv_at hl 3 rfl) ?_
              refine hm_callS (rest := [.int 4, .long (lN (t (cO to i 2))), .long (b4 (prt t to (3 * i)))]) (k := 1) q5_158 q5_159 q1_9 q5_160 nm_X8_cellOf rfl hx hb hml hown hts hK hO hS hH hl.1 (c_X8_cellOf Γ l to i 0 fi hto hi3 (by decide)) ⟨Nat.le_of_ble_eq_true rfl, Nat.le_of_ble_eq_true rfl⟩ ⟨Nat.le_of_ble_eq_true rfl, Nat.le_of_ble_eq_true rfl⟩ rfl (Nat.le_of_ble_eq_true rfl) dX8_pushed_112 (fun v_ f_ H locs hp_ hH hS => ?_)
              obtain ⟨rfl, ef_⟩ := hp_
              rw [ef_] at hH
              clear ef_
              refine W.eq (g2 := F0 m 115 ls [.int (nI (cO to i 0)), .int 4, .long (lN (t (cO to i 2))), .long (b4 (prt t to (3 * i)))]) rfl ?_
              refine lv_imul hx hb dX8_pushed_115 ?_
              refine lv_topi (fun v102 ev102 => ?_)
              replace ev102 : v102 = (4 * (nI (cO to i 0))) := ev102.trans (rfl)
              subst ev102
              refine lv_lshl hx hb dX8_pushed_116 rfl ?_
              refine lv_topl (fun v103 ev103 => ?_)
              replace ev103 : v103 = ((lN (t (cO to i 2))) <<< (((4 * (nI (cO to i 0)))).toInt64 &&& 63)) := ev103.trans (rfl)
              subst ev103
              refine lv_ladd hx hb dX8_pushed_117 ?_
              refine lv_topl (fun v104 ev104 => ?_)
              replace ev104 : v104 = b4 (updN (prt t to (3 * i)) (cO to i 0) (t (cO to i 2))) := ev104.trans (b4_add hk0 hz0)
              subst ev104
              refine lv_lstore (lv' := [(4, .long (b4 (updN (prt t to (3 * i)) (cO to i 0) (t (cO to i 2))))), (10, .int (nI (t (cO to i 2)))), (9, .int 2), (8, .int 0), (7, .int 0), (6, .int (nI i)), (0, .ref m0), (1, .long (b4 t)), (3, .int (nI to))]) hx hb dX8_pushed_118 hl (by decide) rfl (fun ls hl => ?_)
              refine lv_iload hx hb dX8_pushed_120 (lv_at hl 1 rfl) ?_
              refine lv_istore (lv' := [(8, .int (nI (t (cO to i 2)))), (4, .long (b4 (updN (prt t to (3 * i)) (cO to i 0) (t (cO to i 2))))), (10, .int (nI (t (cO to i 2)))), (9, .int 2), (7, .int 0), (6, .int (nI i)), (0, .ref m0), (1, .long (b4 t)), (3, .int (nI to))]) hx hb dX8_pushed_122 hl (by decide) rfl (fun ls hl => ?_)
              refine lv_iinc (v := 1) (lv' := [(7, .int 1), (8, .int (nI (t (cO to i 2)))), (4, .long (b4 (updN (prt t to (3 * i)) (cO to i 0) (t (cO to i 2))))), (10, .int (nI (t (cO to i 2)))), (9, .int 2), (6, .int (nI i)), (0, .ref m0), (1, .long (b4 t)), (3, .int (nI to))]) hx hb dX8_pushed_124 hl (k := 4) rfl (by decide) (by decide) rfl (fun ls hl => ?_)
              refine lv_iinc (v := 3) (lv' := [(9, .int 3), (7, .int 1), (8, .int (nI (t (cO to i 2)))), (4, .long (b4 (updN (prt t to (3 * i)) (cO to i 0) (t (cO to i 2))))), (10, .int (nI (t (cO to i 2)))), (6, .int (nI i)), (0, .ref m0), (1, .long (b4 t)), (3, .int (nI to))]) hx hb dX8_pushed_127 hl (k := 4) rfl (by decide) (by decide) rfl (fun ls hl => ?_)
              refine lv_goto (tgt := 26) hx hb dX8_pushed_130 (by decide) ?_
              refine lv_iload hx hb dX8_pushed_26 (lv_at hl 0 rfl) ?_
              refine lv_iconst (v := 3) hx hb dX8_pushed_28 (by decide) ?_
              refine lv_icmp_ge (tgt := 133) hx hb dX8_pushed_29 (by decide) (fun _ => ?_) (fun c105 => absurd (by decide) c105)
              refine lv_iinc (v := (nI (i + 1))) (lv' := [(6, .int ((nI (i + 1)))), (9, .int 3), (7, .int 1), (8, .int (nI (t (cO to i 2)))), (4, .long (b4 (updN (prt t to (3 * i)) (cO to i 0) (t (cO to i 2))))), (10, .int (nI (t (cO to i 2)))), (0, .ref m0), (1, .long (b4 t)), (3, .int (nI to))]) hx hb dX8_pushed_133 hl (k := 5) rfl (nI_1 i) (by decide) rfl (fun ls hl => ?_)
              refine lv_goto (tgt := 11) hx hb dX8_pushed_136 (by decide) ?_
              have g0 : (t (cO to i 0)) = 0 := (nI_eq (a := t (cO to i 0)) (b := 0) (by omega) (by omega)).mp c3
              have g1 : (t (cO to i 1)) = 0 := (nI_eq (a := t (cO to i 1)) (b := 0) (by omega) (by omega)).mp c73
              have g2 : ¬ (t (cO to i 2)) = 0 := (fun qq_ => c99 ((nI_eq (a := t (cO to i 2)) (b := 0) (by omega) (by omega)).mpr qq_))
              have hmg : mg (lineT t to i) = (t (cO to i 2), 0, 0) := by simp [lineT, gat, mg, g0, g1, g2]
              have hgn : gn (lineT t to i) = 0 := by simp [lineT, gat, gn, g0, g1, g2]
              have hgs : gsum t to (i + 1) = gsum t to i + gn (lineT t to i) := rfl
              subst efi
              have hH : hm_H Γ (hm_up f m0 (eM r mth mpl mga mtr mke mro mck mli mdz ((nI (gsum t to (i + 1)))) mhi mmi mfh msh msm mso msp mrf)) H := by rw [hgs, hgn]; exact hH
              refine ih (i + 1) (by omega) H locs hH hS ls ?_
              rw [lin1 hto hi3 hmg]
              exact lv_sub hl [0, 4, 6, 7, 8] rfl
            · refine lv_goto (tgt := 127) hx hb dX8_pushed_51 (by decide) ?_
              refine lv_iinc (v := 3) (lv' := [(9, .int 3), (10, .int (nI (t (cO to i 2)))), (8, .int 0), (7, .int 0), (6, .int (nI i)), (4, .long (b4 (prt t to (3 * i)))), (0, .ref m0), (1, .long (b4 t)), (3, .int (nI to))]) hx hb dX8_pushed_127 hl (k := 1) rfl (by decide) (by decide) rfl (fun ls hl => ?_)
              refine lv_goto (tgt := 26) hx hb dX8_pushed_130 (by decide) ?_
              refine lv_iload hx hb dX8_pushed_26 (lv_at hl 0 rfl) ?_
              refine lv_iconst (v := 3) hx hb dX8_pushed_28 (by decide) ?_
              refine lv_icmp_ge (tgt := 133) hx hb dX8_pushed_29 (by decide) (fun _ => ?_) (fun c106 => absurd (by decide) c106)
              refine lv_iinc (v := (nI (i + 1))) (lv' := [(6, .int ((nI (i + 1)))), (9, .int 3), (10, .int (nI (t (cO to i 2)))), (8, .int 0), (7, .int 0), (4, .long (b4 (prt t to (3 * i)))), (0, .ref m0), (1, .long (b4 t)), (3, .int (nI to))]) hx hb dX8_pushed_133 hl (k := 4) rfl (nI_1 i) (by decide) rfl (fun ls hl => ?_)
              refine lv_goto (tgt := 11) hx hb dX8_pushed_136 (by decide) ?_
              have g0 : (t (cO to i 0)) = 0 := (nI_eq (a := t (cO to i 0)) (b := 0) (by omega) (by omega)).mp c3
              have g1 : (t (cO to i 1)) = 0 := (nI_eq (a := t (cO to i 1)) (b := 0) (by omega) (by omega)).mp c73
              have g2 : (t (cO to i 2)) = 0 := (nI_eq (a := t (cO to i 2)) (b := 0) (by omega) (by omega)).mp c99
              have hmg : mg (lineT t to i) = (0, 0, 0) := by simp [lineT, gat, mg, g0, g1, g2]
              have hgn : gn (lineT t to i) = 0 := by simp [lineT, gat, gn, g0, g1, g2]
              have hgs : gsum t to (i + 1) = gsum t to i + gn (lineT t to i) := rfl
              subst efi
              have hH : hm_H Γ (hm_up f m0 (eM r mth mpl mga mtr mke mro mck mli mdz ((nI (gsum t to (i + 1)))) mhi mmi mfh msh msm mso msp mrf)) H := by rw [hgs, hgn]; exact hH
              refine ih (i + 1) (by omega) H locs hH hS ls ?_
              rw [lin0 hto hi3 hmg]
              exact lv_sub hl [0, 5, 6, 7, 8] rfl
  refine lv_lconst (v := 0) hx hb dX8_pushed_0 (by decide) ?_
  refine lv_lstore (lv' := [(4, .long 0), (0, .ref m0), (1, .long (b4 t)), (3, .int (nI to))]) hx hb dX8_pushed_1 hl (by decide) rfl (fun ls hl => ?_)
  refine lv_aload_n hx hb dX8_pushed_3 rfl (lv_at hl 1 rfl) ?_
  refine lv_iconst (v := 0) hx hb dX8_pushed_4 (by decide) ?_
  refine pf_X8_113 hx hb hts hown hK hO hS hH hm0 rfl (Nat.le_of_ble_eq_true rfl) rfl dX8_pushed_5 (fun H locs hH hS => ?_)
  obtain ⟨f1, ef1⟩ : ∃ zz_, zz_ = hm_up f m0 (eM r mth mpl mga mtr mke mro mck mli mdz 0 mhi mmi mfh msh msm mso msp mrf) := ⟨_, rfl⟩
  have hH : hm_H Γ f1 H := by rw [ef1]; exact hH
  have h2 : f1 m0 = some (eM r mth mpl mga mtr mke mro mck mli mdz 0 mhi mmi mfh msh msm mso msp mrf) := by rw [ef1]; exact hm_us
  refine lv_iconst (v := 0) hx hb dX8_pushed_8 (by decide) ?_
  refine lv_istore (lv' := [(6, .int 0), (4, .long 0), (0, .ref m0), (1, .long (b4 t)), (3, .int (nI to))]) hx hb dX8_pushed_9 hl (by decide) rfl (fun ls hl => ?_)
  subst ef1
  have hl := hl
  rw [b4_0, ← prt_0 t to] at hl
  exact loop 3 0 rfl H locs hH hS ls (lv_sub hl [0, 1, 2, 3, 4] rfl)
