/-! TileWarden.Boards: each method by contract; t: the tiles, b5 t the board -/
set_option maxHeartbeats 4000000 in
set_option maxRecDepth 100000 in
theorem c_X0_tileAt (Γ : Gm) (l : Launch) (t : Nat → Nat) (k : Nat) (f : Hm) (ht : tl 32 t) (hk : k < 9) : Ct Γ l yX0_tileAt cX0_tileAt 3 (some .int) 1 0 0 [.long (b5 t), .int (nI k)] f (pI (nI (t k)) f) := by
  refine Ct_of (by decide +kernel) (Nat.le_of_ble_eq_true rfl) ?_
  intro p e s m args below meth c hx hb hr hml hown hin hlocks hts hH hO hK ls hl
  have hl : lv_has ls 3 [(0, .long (b5 t)), (2, .int (nI k))] := hl
  have hS : va_S (gA Γ) s.heap s.heap [] := va_S.rf
  refine lv_lload_n hx hb dX0_tileAt_0 rfl (lv_at hl 0 rfl) ?_
  refine lv_iload_n hx hb dX0_tileAt_1 rfl (lv_at hl 1 rfl) ?_
  refine lv_iconst (v := 5) hx hb dX0_tileAt_2 (by decide) ?_
  refine lv_imul hx hb dX0_tileAt_3 ?_
  refine lv_topi (fun v1 ev1 => ?_)
  refine lv_lushr hx hb dX0_tileAt_4 rfl ?_
  refine lv_topl (fun v2 ev2 => ?_)
  refine lv_l2i hx hb dX0_tileAt_5 rfl ?_
  refine lv_topi (fun v3 ev3 => ?_)
  refine lv_bipush (v := 31) hx hb dX0_tileAt_6 (by decide) ?_
  refine lv_iand hx hb dX0_tileAt_8 ?_
  refine lv_topi (fun v4 ev4 => ?_)
  subst ev4
  subst ev3
  subst ev2
  subst ev1
  exact hm_iret hx hb hr hlocks hS hH (pI_of (m_tile5 ht hk)) (Nat.le_of_ble_eq_true rfl) (Nat.le_of_ble_eq_true rfl) dX0_tileAt_9
set_option maxHeartbeats 4000000 in
set_option maxRecDepth 100000 in
theorem c_X0_nextZ (Γ : Gm) (l : Launch) (z : Nat) (f : Hm) : Ct Γ l yX0_nextZ cX0_nextZ 1 (some .int) 1 0 0 [.int (nI z)] f (pI (nI (nxt z)) f) := by
  refine Ct_of (by decide +kernel) (Nat.le_of_ble_eq_true rfl) ?_
  intro p e s m args below meth c hx hb hr hml hown hin hlocks hts hH hO hK ls hl
  have hl : lv_has ls 1 [(0, .int (nI z))] := hl
  have hS : va_S (gA Γ) s.heap s.heap [] := va_S.rf
  refine lv_iload_n hx hb dX0_nextZ_0 rfl (lv_at hl 0 rfl) ?_
  refine lv_ldc (v := 1103515245) hx hb hown (hts _ q3_17) dX0_nextZ_1 ?_
  refine lv_imul hx hb dX0_nextZ_3 ?_
  refine lv_topi (fun v1 ev1 => ?_)
  refine lv_sipush (v := 12345) hx hb dX0_nextZ_4 (by decide) ?_
  refine lv_iadd hx hb dX0_nextZ_7 ?_
  refine lv_topi (fun v2 ev2 => ?_)
  refine lv_ldc (v := 2147483647) hx hb hown (hts _ q3_18) dX0_nextZ_8 ?_
  refine lv_iand hx hb dX0_nextZ_10 ?_
  refine lv_topi (fun v3 ev3 => ?_)
  subst ev3
  subst ev2
  subst ev1
  exact hm_iret hx hb hr hlocks hS hH (pI_of (m_nxt z)) (Nat.le_of_ble_eq_true rfl) (Nat.le_of_ble_eq_true rfl) dX0_nextZ_11
set_option maxHeartbeats 4000000 in
set_option maxRecDepth 100000 in
theorem c_X0_drawnZ (Γ : Gm) (l : Launch) (z : Nat) (f : Hm) : Ct Γ l yX0_drawnZ cX0_drawnZ 1 (some .int) 2 0 0 [.int (nI z)] f (pI (nI (nxt (nxt z))) f) := by
  refine Ct_of (by decide +kernel) (Nat.le_of_ble_eq_true rfl) ?_
  intro p e s m args below meth c hx hb hr hml hown hin hlocks hts hH hO hK ls hl
  have hl : lv_has ls 1 [(0, .int (nI z))] := hl
  have hS : va_S (gA Γ) s.heap s.heap [] := va_S.rf
  refine lv_iload_n hx hb dX0_drawnZ_0 rfl (lv_at hl 0 rfl) ?_
  refine hm_callS (rest := []) (k := 1) q3_14 q3_15 q1_24 q3_16 nm_X0_nextZ rfl hx hb hml hown hts hK hO hS hH hl.1 (c_X0_nextZ Γ l z _) ⟨Nat.le_of_ble_eq_true rfl, Nat.le_of_ble_eq_true rfl⟩ ⟨Nat.le_of_ble_eq_true rfl, Nat.le_of_ble_eq_true rfl⟩ rfl (Nat.le_of_ble_eq_true rfl) dX0_drawnZ_1 (fun v_ f_ H locs hp_ hH hS => ?_)
  obtain ⟨rfl, ef_⟩ := hp_
  rw [ef_] at hH
  clear ef_
  refine W.eq (g2 := F0 m 4 ls [.int (nI (nxt z))]) rfl ?_
  refine hm_callS (rest := []) (k := 1) q3_14 q3_15 q1_24 q3_16 nm_X0_nextZ rfl hx hb hml hown hts hK hO hS hH hl.1 (c_X0_nextZ Γ l (nxt z) _) ⟨Nat.le_of_ble_eq_true rfl, Nat.le_of_ble_eq_true rfl⟩ ⟨Nat.le_of_ble_eq_true rfl, Nat.le_of_ble_eq_true rfl⟩ rfl (Nat.le_of_ble_eq_true rfl) dX0_drawnZ_4 (fun v_ f_ H locs hp_ hH hS => ?_)
  obtain ⟨rfl, ef_⟩ := hp_
  rw [ef_] at hH
  clear ef_
  refine W.eq (g2 := F0 m 7 ls [.int (nI (nxt (nxt z)))]) rfl ?_
  exact hm_iret hx hb hr hlocks hS hH (pI_of (rfl)) (Nat.le_of_ble_eq_true rfl) (Nat.le_of_ble_eq_true rfl) dX0_drawnZ_7
set_option maxHeartbeats 4000000 in
set_option maxRecDepth 100000 in
theorem c_X0_cellOf (Γ : Gm) (l : Launch) (to i p0 : Nat) (f : Hm) (hto : to < 4) (hi : i < 3) (hp0 : p0 < 3) : Ct Γ l yX0_cellOf cX0_cellOf 3 (some .int) 1 0 0 [.int (nI to), .int (nI i), .int (nI p0)] f (pI (nI (cO to i p0)) f) := by
  refine Ct_of (by decide +kernel) (Nat.le_of_ble_eq_true rfl) ?_
  intro p e s m args below meth c hx hb hr hml hown hin hlocks hts hH hO hK ls hl
  have hl : lv_has ls 3 [(0, .int (nI to)), (1, .int (nI i)), (2, .int (nI p0))] := hl
  have hS : va_S (gA Γ) s.heap s.heap [] := va_S.rf
  rcases (show to = 0 ∨ to = 1 ∨ to = 2 ∨ to = 3 by omega) with rfl | rfl | rfl | rfl
  · refine lv_iload_n hx hb dX0_cellOf_0 rfl (lv_at hl 0 rfl) ?_
    refine lv_tableIn (off := 27) (tgt := 28) hx hb dX0_cellOf_1 (by decide) (by decide) (by decide) (by decide) ?_
    refine lv_iload_n hx hb dX0_cellOf_28 rfl (lv_at hl 2 rfl) ?_
    refine lv_iconst (v := 3) hx hb dX0_cellOf_29 (by decide) ?_
    refine lv_imul hx hb dX0_cellOf_30 ?_
    refine lv_topi (fun v1 ev1 => ?_)
    refine lv_iload_n hx hb dX0_cellOf_31 rfl (lv_at hl 1 rfl) ?_
    refine lv_iadd hx hb dX0_cellOf_32 ?_
    refine lv_topi (fun v2 ev2 => ?_)
    subst ev2
    subst ev1
    exact hm_iret hx hb hr hlocks hS hH (pI_of (m_c0 i hi p0 hp0)) (Nat.le_of_ble_eq_true rfl) (Nat.le_of_ble_eq_true rfl) dX0_cellOf_33
  · refine lv_iload_n hx hb dX0_cellOf_0 rfl (lv_at hl 0 rfl) ?_
    refine lv_tableIn (off := 33) (tgt := 34) hx hb dX0_cellOf_1 (by decide) (by decide) (by decide) (by decide) ?_
    refine lv_iload_n hx hb dX0_cellOf_34 rfl (lv_at hl 1 rfl) ?_
    refine lv_iconst (v := 3) hx hb dX0_cellOf_35 (by decide) ?_
    refine lv_imul hx hb dX0_cellOf_36 ?_
    refine lv_topi (fun v1 ev1 => ?_)
    refine lv_iconst (v := 3) hx hb dX0_cellOf_37 (by decide) ?_
    refine lv_iadd hx hb dX0_cellOf_38 ?_
    refine lv_topi (fun v2 ev2 => ?_)
    refine lv_iconst (v := 1) hx hb dX0_cellOf_39 (by decide) ?_
    refine lv_isub hx hb dX0_cellOf_40 ?_
    refine lv_topi (fun v3 ev3 => ?_)
    refine lv_iload_n hx hb dX0_cellOf_41 rfl (lv_at hl 2 rfl) ?_
    refine lv_isub hx hb dX0_cellOf_42 ?_
    refine lv_topi (fun v4 ev4 => ?_)
    subst ev4
    subst ev3
    subst ev2
    subst ev1
    exact hm_iret hx hb hr hlocks hS hH (pI_of (m_c1 i hi p0 hp0)) (Nat.le_of_ble_eq_true rfl) (Nat.le_of_ble_eq_true rfl) dX0_cellOf_43
  · refine lv_iload_n hx hb dX0_cellOf_0 rfl (lv_at hl 0 rfl) ?_
    refine lv_tableIn (off := 43) (tgt := 44) hx hb dX0_cellOf_1 (by decide) (by decide) (by decide) (by decide) ?_
    refine lv_iconst (v := 2) hx hb dX0_cellOf_44 (by decide) ?_
    refine lv_iload_n hx hb dX0_cellOf_45 rfl (lv_at hl 2 rfl) ?_
    refine lv_isub hx hb dX0_cellOf_46 ?_
    refine lv_topi (fun v1 ev1 => ?_)
    refine lv_iconst (v := 3) hx hb dX0_cellOf_47 (by decide) ?_
    refine lv_imul hx hb dX0_cellOf_48 ?_
    refine lv_topi (fun v2 ev2 => ?_)
    refine lv_iload_n hx hb dX0_cellOf_49 rfl (lv_at hl 1 rfl) ?_
    refine lv_iadd hx hb dX0_cellOf_50 ?_
    refine lv_topi (fun v3 ev3 => ?_)
    subst ev3
    subst ev2
    subst ev1
    exact hm_iret hx hb hr hlocks hS hH (pI_of (m_c2 i hi p0 hp0)) (Nat.le_of_ble_eq_true rfl) (Nat.le_of_ble_eq_true rfl) dX0_cellOf_51
  · refine lv_iload_n hx hb dX0_cellOf_0 rfl (lv_at hl 0 rfl) ?_
    refine lv_tableOut (tgt := 52) hx hb dX0_cellOf_1 (by decide) (by decide) ?_
    refine lv_iload_n hx hb dX0_cellOf_52 rfl (lv_at hl 1 rfl) ?_
    refine lv_iconst (v := 3) hx hb dX0_cellOf_53 (by decide) ?_
    refine lv_imul hx hb dX0_cellOf_54 ?_
    refine lv_topi (fun v1 ev1 => ?_)
    refine lv_iload_n hx hb dX0_cellOf_55 rfl (lv_at hl 2 rfl) ?_
    refine lv_iadd hx hb dX0_cellOf_56 ?_
    refine lv_topi (fun v2 ev2 => ?_)
    subst ev2
    subst ev1
    exact hm_iret hx hb hr hlocks hS hH (pI_of (m_c3 i hi p0 hp0)) (Nat.le_of_ble_eq_true rfl) (Nat.le_of_ble_eq_true rfl) dX0_cellOf_57
set_option maxHeartbeats 4000000 in
set_option maxRecDepth 100000 in
theorem c_X0_tileIn (Γ : Gm) (l : Launch) (q : Nat × Nat × Nat) (p0 : Nat) (f : Hm) (hq : q.1 < 32 ∧ q.2.1 < 32 ∧ q.2.2 < 32) (hp0 : p0 < 3) : Ct Γ l yX0_tileIn cX0_tileIn 2 (some .int) 1 0 0 [.int (nI (ln q)), .int (nI p0)] f (pI (nI (at3 q p0)) f) := by
  refine Ct_of (by decide +kernel) (Nat.le_of_ble_eq_true rfl) ?_
  intro p e s m args below meth c hx hb hr hml hown hin hlocks hts hH hO hK ls hl
  have hl : lv_has ls 2 [(0, .int (nI (ln q))), (1, .int (nI p0))] := hl
  have hS : va_S (gA Γ) s.heap s.heap [] := va_S.rf
  refine lv_iload_n hx hb dX0_tileIn_0 rfl (lv_at hl 0 rfl) ?_
  refine lv_iload_n hx hb dX0_tileIn_1 rfl (lv_at hl 1 rfl) ?_
  refine lv_iconst (v := 5) hx hb dX0_tileIn_2 (by decide) ?_
  refine lv_imul hx hb dX0_tileIn_3 ?_
  refine lv_topi (fun v1 ev1 => ?_)
  refine lv_ishr hx hb dX0_tileIn_4 ?_
  refine lv_topi (fun v2 ev2 => ?_)
  refine lv_bipush (v := 31) hx hb dX0_tileIn_5 (by decide) ?_
  refine lv_iand hx hb dX0_tileIn_7 ?_
  refine lv_topi (fun v3 ev3 => ?_)
  subst ev3
  subst ev2
  subst ev1
  exact hm_iret hx hb hr hlocks hS hH (pI_of (m_tileIn hq hp0)) (Nat.le_of_ble_eq_true rfl) (Nat.le_of_ble_eq_true rfl) dX0_tileIn_8
set_option maxHeartbeats 4000000 in
set_option maxRecDepth 100000 in
theorem c_X0_gathered (Γ : Gm) (l : Launch) (t : Nat → Nat) (to i : Nat) (f : Hm) (ht : tl 32 t) (hto : to < 4) (hi : i < 3) : Ct Γ l yX0_gathered cX0_gathered 8 (some .int) 2 0 0 [.long (b5 t), .int (nI to), .int (nI i)] f (pI (nI (ln (lineT t to i))) f) := by
  refine Ct_of (by decide +kernel) (Nat.le_of_ble_eq_true rfl) ?_
  intro p e s m args below meth c hx hb hr hml hown hin hlocks hts hH hO hK ls hl
  have hl : lv_has ls 8 [(0, .long (b5 t)), (2, .int (nI to)), (3, .int (nI i))] := hl
  have hS : va_S (gA Γ) s.heap s.heap [] := va_S.rf
  refine lv_iconst (v := 0) hx hb dX0_gathered_0 (by decide) ?_
  refine lv_istore (lv' := [(4, .int 0), (0, .long (b5 t)), (2, .int (nI to)), (3, .int (nI i))]) hx hb dX0_gathered_1 hl (by decide) rfl (fun ls hl => ?_)
  refine lv_iconst (v := 0) hx hb dX0_gathered_3 (by decide) ?_
  refine lv_istore (lv' := [(5, .int 0), (4, .int 0), (0, .long (b5 t)), (2, .int (nI to)), (3, .int (nI i))]) hx hb dX0_gathered_4 hl (by decide) rfl (fun ls hl => ?_)
  refine lv_iconst (v := 0) hx hb dX0_gathered_6 (by decide) ?_
  refine lv_istore (lv' := [(6, .int 0), (5, .int 0), (4, .int 0), (0, .long (b5 t)), (2, .int (nI to)), (3, .int (nI i))]) hx hb dX0_gathered_7 hl (by decide) rfl (fun ls hl => ?_)
  refine lv_iload hx hb dX0_gathered_9 (lv_at hl 0 rfl) ?_
  refine lv_iconst (v := 3) hx hb dX0_gathered_11 (by decide) ?_
  refine lv_icmp_ge (tgt := 54) hx hb dX0_gathered_12 (by decide) (fun c1 => absurd c1 (by decide)) (fun _ => ?_)
  refine lv_lload_n hx hb dX0_gathered_15 rfl (lv_at hl 3 rfl) ?_
  refine lv_iload_n hx hb dX0_gathered_16 rfl (lv_at hl 4 rfl) ?_
  refine lv_iload_n hx hb dX0_gathered_17 rfl (lv_at hl 5 rfl) ?_
  refine lv_iload hx hb dX0_gathered_18 (lv_at hl 0 rfl) ?_
  refine hm_callS (rest := [.long (b5 t)]) (k := 1) q3_98 q3_99 q1_24 q3_100 nm_X0_cellOf rfl hx hb hml hown hts hK hO hS hH hl.1 (c_X0_cellOf Γ l to i 0 _ hto hi (by decide)) ⟨Nat.le_of_ble_eq_true rfl, Nat.le_of_ble_eq_true rfl⟩ ⟨Nat.le_of_ble_eq_true rfl, Nat.le_of_ble_eq_true rfl⟩ rfl (Nat.le_of_ble_eq_true rfl) dX0_gathered_20 (fun v_ f_ H locs hp_ hH hS => ?_)
  obtain ⟨rfl, ef_⟩ := hp_
  rw [ef_] at hH
  clear ef_
  refine W.eq (g2 := F0 m 23 ls [.int (nI (cO to i 0)), .long (b5 t)]) rfl ?_
  refine hm_callS (rest := []) (k := 1) q3_25 q3_26 q1_24 q3_27 nm_X0_tileAt rfl hx hb hml hown hts hK hO hS hH hl.1 (c_X0_tileAt Γ l t (cO to i 0) _ ht (by first | assumption | exact cO_lt to hto i hi _ (by decide))) ⟨Nat.le_of_ble_eq_true rfl, Nat.le_of_ble_eq_true rfl⟩ ⟨Nat.le_of_ble_eq_true rfl, Nat.le_of_ble_eq_true rfl⟩ rfl (Nat.le_of_ble_eq_true rfl) dX0_gathered_23 (fun v_ f_ H locs hp_ hH hS => ?_)
  obtain ⟨rfl, ef_⟩ := hp_
  rw [ef_] at hH
  clear ef_
  refine W.eq (g2 := F0 m 26 ls [.int (nI (t (cO to i 0)))]) rfl ?_
  refine lv_istore (lv' := [(7, .int (nI (t (cO to i 0)))), (6, .int 0), (5, .int 0), (4, .int 0), (0, .long (b5 t)), (2, .int (nI to)), (3, .int (nI i))]) hx hb dX0_gathered_26 hl (by decide) rfl (fun ls hl => ?_)
  refine lv_iload hx hb dX0_gathered_28 (lv_at hl 0 rfl) ?_
  refine lv_if_eq (tgt := 48) hx hb dX0_gathered_30 (by decide) (fun c2 => ?_) (fun c2 => ?_)
  · refine lv_iinc (v := 1) (lv' := [(6, .int 1), (7, .int (nI (t (cO to i 0)))), (5, .int 0), (4, .int 0), (0, .long (b5 t)), (2, .int (nI to)), (3, .int (nI i))]) hx hb dX0_gathered_48 hl (k := 1) rfl (by decide) (by decide) rfl (fun ls hl => ?_)
    refine lv_goto (tgt := 9) hx hb dX0_gathered_51 (by decide) ?_
    refine lv_iload hx hb dX0_gathered_9 (lv_at hl 0 rfl) ?_
    refine lv_iconst (v := 3) hx hb dX0_gathered_11 (by decide) ?_
    refine lv_icmp_ge (tgt := 54) hx hb dX0_gathered_12 (by decide) (fun c3 => absurd c3 (by decide)) (fun _ => ?_)
    refine lv_lload_n hx hb dX0_gathered_15 rfl (lv_at hl 4 rfl) ?_
    refine lv_iload_n hx hb dX0_gathered_16 rfl (lv_at hl 5 rfl) ?_
    refine lv_iload_n hx hb dX0_gathered_17 rfl (lv_at hl 6 rfl) ?_
    refine lv_iload hx hb dX0_gathered_18 (lv_at hl 0 rfl) ?_
    refine hm_callS (rest := [.long (b5 t)]) (k := 1) q3_98 q3_99 q1_24 q3_100 nm_X0_cellOf rfl hx hb hml hown hts hK hO hS hH hl.1 (c_X0_cellOf Γ l to i 1 _ hto hi (by decide)) ⟨Nat.le_of_ble_eq_true rfl, Nat.le_of_ble_eq_true rfl⟩ ⟨Nat.le_of_ble_eq_true rfl, Nat.le_of_ble_eq_true rfl⟩ rfl (Nat.le_of_ble_eq_true rfl) dX0_gathered_20 (fun v_ f_ H locs hp_ hH hS => ?_)
    obtain ⟨rfl, ef_⟩ := hp_
    rw [ef_] at hH
    clear ef_
    refine W.eq (g2 := F0 m 23 ls [.int (nI (cO to i 1)), .long (b5 t)]) rfl ?_
    refine hm_callS (rest := []) (k := 1) q3_25 q3_26 q1_24 q3_27 nm_X0_tileAt rfl hx hb hml hown hts hK hO hS hH hl.1 (c_X0_tileAt Γ l t (cO to i 1) _ ht (by first | assumption | exact cO_lt to hto i hi _ (by decide))) ⟨Nat.le_of_ble_eq_true rfl, Nat.le_of_ble_eq_true rfl⟩ ⟨Nat.le_of_ble_eq_true rfl, Nat.le_of_ble_eq_true rfl⟩ rfl (Nat.le_of_ble_eq_true rfl) dX0_gathered_23 (fun v_ f_ H locs hp_ hH hS => ?_)
    obtain ⟨rfl, ef_⟩ := hp_
    rw [ef_] at hH
    clear ef_
    refine W.eq (g2 := F0 m 26 ls [.int (nI (t (cO to i 1)))]) rfl ?_
    refine lv_istore (lv' := [(7, .int (nI (t (cO to i 1)))), (6, .int 1), (5, .int 0), (4, .int 0), (0, .long (b5 t)), (2, .int (nI to)), (3, .int (nI i))]) hx hb dX0_gathered_26 hl (by decide) rfl (fun ls hl => ?_)
    refine lv_iload hx hb dX0_gathered_28 (lv_at hl 0 rfl) ?_
    refine lv_if_eq (tgt := 48) hx hb dX0_gathered_30 (by decide) (fun c4 => ?_) (fun c4 => ?_)
    · refine lv_iinc (v := 2) (lv' := [(6, .int 2), (7, .int (nI (t (cO to i 1)))), (5, .int 0), (4, .int 0), (0, .long (b5 t)), (2, .int (nI to)), (3, .int (nI i))]) hx hb dX0_gathered_48 hl (k := 1) rfl (by decide) (by decide) rfl (fun ls hl => ?_)
      refine lv_goto (tgt := 9) hx hb dX0_gathered_51 (by decide) ?_
      refine lv_iload hx hb dX0_gathered_9 (lv_at hl 0 rfl) ?_
      refine lv_iconst (v := 3) hx hb dX0_gathered_11 (by decide) ?_
      refine lv_icmp_ge (tgt := 54) hx hb dX0_gathered_12 (by decide) (fun c5 => absurd c5 (by decide)) (fun _ => ?_)
      refine lv_lload_n hx hb dX0_gathered_15 rfl (lv_at hl 4 rfl) ?_
      refine lv_iload_n hx hb dX0_gathered_16 rfl (lv_at hl 5 rfl) ?_
      refine lv_iload_n hx hb dX0_gathered_17 rfl (lv_at hl 6 rfl) ?_
      refine lv_iload hx hb dX0_gathered_18 (lv_at hl 0 rfl) ?_
      refine hm_callS (rest := [.long (b5 t)]) (k := 1) q3_98 q3_99 q1_24 q3_100 nm_X0_cellOf rfl hx hb hml hown hts hK hO hS hH hl.1 (c_X0_cellOf Γ l to i 2 _ hto hi (by decide)) ⟨Nat.le_of_ble_eq_true rfl, Nat.le_of_ble_eq_true rfl⟩ ⟨Nat.le_of_ble_eq_true rfl, Nat.le_of_ble_eq_true rfl⟩ rfl (Nat.le_of_ble_eq_true rfl) dX0_gathered_20 (fun v_ f_ H locs hp_ hH hS => ?_)
      obtain ⟨rfl, ef_⟩ := hp_
      rw [ef_] at hH
      clear ef_
      refine W.eq (g2 := F0 m 23 ls [.int (nI (cO to i 2)), .long (b5 t)]) rfl ?_
      refine hm_callS (rest := []) (k := 1) q3_25 q3_26 q1_24 q3_27 nm_X0_tileAt rfl hx hb hml hown hts hK hO hS hH hl.1 (c_X0_tileAt Γ l t (cO to i 2) _ ht (by first | assumption | exact cO_lt to hto i hi _ (by decide))) ⟨Nat.le_of_ble_eq_true rfl, Nat.le_of_ble_eq_true rfl⟩ ⟨Nat.le_of_ble_eq_true rfl, Nat.le_of_ble_eq_true rfl⟩ rfl (Nat.le_of_ble_eq_true rfl) dX0_gathered_23 (fun v_ f_ H locs hp_ hH hS => ?_)
      obtain ⟨rfl, ef_⟩ := hp_
      rw [ef_] at hH
      clear ef_
      refine W.eq (g2 := F0 m 26 ls [.int (nI (t (cO to i 2)))]) rfl ?_
      refine lv_istore (lv' := [(7, .int (nI (t (cO to i 2)))), (6, .int 2), (5, .int 0), (4, .int 0), (0, .long (b5 t)), (2, .int (nI to)), (3, .int (nI i))]) hx hb dX0_gathered_26 hl (by decide) rfl (fun ls hl => ?_)
      refine lv_iload hx hb dX0_gathered_28 (lv_at hl 0 rfl) ?_
      refine lv_if_eq (tgt := 48) hx hb dX0_gathered_30 (by decide) (fun c6 => ?_) (fun c6 => ?_)
      · refine lv_iinc (v := 3) (lv' := [(6, .int 3), (7, .int (nI (t (cO to i 2)))), (5, .int 0), (4, .int 0), (0, .long (b5 t)), (2, .int (nI to)), (3, .int (nI i))]) hx hb dX0_gathered_48 hl (k := 1) rfl (by decide) (by decide) rfl (fun ls hl => ?_)
        refine lv_goto (tgt := 9) hx hb dX0_gathered_51 (by decide) ?_
        refine lv_iload hx hb dX0_gathered_9 (lv_at hl 0 rfl) ?_
        refine lv_iconst (v := 3) hx hb dX0_gathered_11 (by decide) ?_
        refine lv_icmp_ge (tgt := 54) hx hb dX0_gathered_12 (by decide) (fun _ => ?_) (fun c7 => absurd (by decide) c7)
        refine lv_iload hx hb dX0_gathered_54 (lv_at hl 3 rfl) ?_
        exact hm_iret hx hb hr hlocks hS hH (pI_of (congrArg nI (show 0 = ln (lineT t to i) by have h1 : (t (cO to i 0)) = 0 := (nI_eq (a := t (cO to i 0)) (b := 0) (by have := ht _ (cO_lt to hto i hi 0 (by decide)); omega) (by omega)).mp c2; have h2 : (t (cO to i 1)) = 0 := (nI_eq (a := t (cO to i 1)) (b := 0) (by have := ht _ (cO_lt to hto i hi 1 (by decide)); omega) (by omega)).mp c4; have h3 : (t (cO to i 2)) = 0 := (nI_eq (a := t (cO to i 2)) (b := 0) (by have := ht _ (cO_lt to hto i hi 2 (by decide)); omega) (by omega)).mp c6; unfold lineT; first | (simp [gat, ln, h1, h2, h3]; done) | (simp [gat, ln, h1, h2, h3]; omega)))) (Nat.le_of_ble_eq_true rfl) (Nat.le_of_ble_eq_true rfl) dX0_gathered_56
      · refine lv_iload hx hb dX0_gathered_33 (lv_at hl 3 rfl) ?_
        refine lv_iload hx hb dX0_gathered_35 (lv_at hl 0 rfl) ?_
        refine lv_iload hx hb dX0_gathered_37 (lv_at hl 2 rfl) ?_
        refine lv_iconst (v := 5) hx hb dX0_gathered_39 (by decide) ?_
        refine lv_imul hx hb dX0_gathered_40 ?_
        refine lv_topi (fun v8 ev8 => ?_)
        have ev8 : v8 = 0 := ev8.trans (by decide)
        subst ev8
        refine lv_ishl hx hb dX0_gathered_41 ?_
        refine lv_topi (fun v9 ev9 => ?_)
        replace ev9 : v9 = nI ((t (cO to i 2)) * 2 ^ 0) := ev9.trans (m_shl (by decide) (by have := ht _ (cO_lt to hto i hi 2 (by decide)); omega))
        subst ev9
        refine lv_ior hx hb dX0_gathered_42 ?_
        refine lv_topi (fun v10 ev10 => ?_)
        replace ev10 : v10 = nI (t (cO to i 2)) := ev10.trans (by simp)
        subst ev10
        refine lv_istore (lv' := [(4, .int (nI (t (cO to i 2)))), (7, .int (nI (t (cO to i 2)))), (6, .int 2), (5, .int 0), (0, .long (b5 t)), (2, .int (nI to)), (3, .int (nI i))]) hx hb dX0_gathered_43 hl (by decide) rfl (fun ls hl => ?_)
        refine lv_iinc (v := 1) (lv' := [(5, .int 1), (4, .int (nI (t (cO to i 2)))), (7, .int (nI (t (cO to i 2)))), (6, .int 2), (0, .long (b5 t)), (2, .int (nI to)), (3, .int (nI i))]) hx hb dX0_gathered_45 hl (k := 3) rfl (by decide) (by decide) rfl (fun ls hl => ?_)
        refine lv_iinc (v := 3) (lv' := [(6, .int 3), (5, .int 1), (4, .int (nI (t (cO to i 2)))), (7, .int (nI (t (cO to i 2)))), (0, .long (b5 t)), (2, .int (nI to)), (3, .int (nI i))]) hx hb dX0_gathered_48 hl (k := 3) rfl (by decide) (by decide) rfl (fun ls hl => ?_)
        refine lv_goto (tgt := 9) hx hb dX0_gathered_51 (by decide) ?_
        refine lv_iload hx hb dX0_gathered_9 (lv_at hl 0 rfl) ?_
        refine lv_iconst (v := 3) hx hb dX0_gathered_11 (by decide) ?_
        refine lv_icmp_ge (tgt := 54) hx hb dX0_gathered_12 (by decide) (fun _ => ?_) (fun c11 => absurd (by decide) c11)
        refine lv_iload hx hb dX0_gathered_54 (lv_at hl 2 rfl) ?_
        exact hm_iret hx hb hr hlocks hS hH (pI_of (congrArg nI (show t (cO to i 2) = ln (lineT t to i) by have h1 : (t (cO to i 0)) = 0 := (nI_eq (a := t (cO to i 0)) (b := 0) (by have := ht _ (cO_lt to hto i hi 0 (by decide)); omega) (by omega)).mp c2; have h2 : (t (cO to i 1)) = 0 := (nI_eq (a := t (cO to i 1)) (b := 0) (by have := ht _ (cO_lt to hto i hi 1 (by decide)); omega) (by omega)).mp c4; have h3 : ¬ (t (cO to i 2)) = 0 := (fun qq_ => c6 ((nI_eq (a := t (cO to i 2)) (b := 0) (by have := ht _ (cO_lt to hto i hi 2 (by decide)); omega) (by omega)).mpr qq_)); unfold lineT; first | (simp [gat, ln, h1, h2, h3]; done) | (simp [gat, ln, h1, h2, h3]; omega)))) (Nat.le_of_ble_eq_true rfl) (Nat.le_of_ble_eq_true rfl) dX0_gathered_56
    · refine lv_iload hx hb dX0_gathered_33 (lv_at hl 3 rfl) ?_
      refine lv_iload hx hb dX0_gathered_35 (lv_at hl 0 rfl) ?_
      refine lv_iload hx hb dX0_gathered_37 (lv_at hl 2 rfl) ?_
      refine lv_iconst (v := 5) hx hb dX0_gathered_39 (by decide) ?_
      refine lv_imul hx hb dX0_gathered_40 ?_
      refine lv_topi (fun v12 ev12 => ?_)
      have ev12 : v12 = 0 := ev12.trans (by decide)
      subst ev12
      refine lv_ishl hx hb dX0_gathered_41 ?_
      refine lv_topi (fun v13 ev13 => ?_)
      replace ev13 : v13 = nI ((t (cO to i 1)) * 2 ^ 0) := ev13.trans (m_shl (by decide) (by have := ht _ (cO_lt to hto i hi 1 (by decide)); omega))
      subst ev13
      refine lv_ior hx hb dX0_gathered_42 ?_
      refine lv_topi (fun v14 ev14 => ?_)
      replace ev14 : v14 = nI (t (cO to i 1)) := ev14.trans (by simp)
      subst ev14
      refine lv_istore (lv' := [(4, .int (nI (t (cO to i 1)))), (7, .int (nI (t (cO to i 1)))), (6, .int 1), (5, .int 0), (0, .long (b5 t)), (2, .int (nI to)), (3, .int (nI i))]) hx hb dX0_gathered_43 hl (by decide) rfl (fun ls hl => ?_)
      refine lv_iinc (v := 1) (lv' := [(5, .int 1), (4, .int (nI (t (cO to i 1)))), (7, .int (nI (t (cO to i 1)))), (6, .int 1), (0, .long (b5 t)), (2, .int (nI to)), (3, .int (nI i))]) hx hb dX0_gathered_45 hl (k := 3) rfl (by decide) (by decide) rfl (fun ls hl => ?_)
      refine lv_iinc (v := 2) (lv' := [(6, .int 2), (5, .int 1), (4, .int (nI (t (cO to i 1)))), (7, .int (nI (t (cO to i 1)))), (0, .long (b5 t)), (2, .int (nI to)), (3, .int (nI i))]) hx hb dX0_gathered_48 hl (k := 3) rfl (by decide) (by decide) rfl (fun ls hl => ?_)
      refine lv_goto (tgt := 9) hx hb dX0_gathered_51 (by decide) ?_
      refine lv_iload hx hb dX0_gathered_9 (lv_at hl 0 rfl) ?_
      refine lv_iconst (v := 3) hx hb dX0_gathered_11 (by decide) ?_
      refine lv_icmp_ge (tgt := 54) hx hb dX0_gathered_12 (by decide) (fun c15 => absurd c15 (by decide)) (fun _ => ?_)
      refine lv_lload_n hx hb dX0_gathered_15 rfl (lv_at hl 4 rfl) ?_
      refine lv_iload_n hx hb dX0_gathered_16 rfl (lv_at hl 5 rfl) ?_
      refine lv_iload_n hx hb dX0_gathered_17 rfl (lv_at hl 6 rfl) ?_
      refine lv_iload hx hb dX0_gathered_18 (lv_at hl 0 rfl) ?_
      refine hm_callS (rest := [.long (b5 t)]) (k := 1) q3_98 q3_99 q1_24 q3_100 nm_X0_cellOf rfl hx hb hml hown hts hK hO hS hH hl.1 (c_X0_cellOf Γ l to i 2 _ hto hi (by decide)) ⟨Nat.le_of_ble_eq_true rfl, Nat.le_of_ble_eq_true rfl⟩ ⟨Nat.le_of_ble_eq_true rfl, Nat.le_of_ble_eq_true rfl⟩ rfl (Nat.le_of_ble_eq_true rfl) dX0_gathered_20 (fun v_ f_ H locs hp_ hH hS => ?_)
      obtain ⟨rfl, ef_⟩ := hp_
      rw [ef_] at hH
      clear ef_
      refine W.eq (g2 := F0 m 23 ls [.int (nI (cO to i 2)), .long (b5 t)]) rfl ?_
      refine hm_callS (rest := []) (k := 1) q3_25 q3_26 q1_24 q3_27 nm_X0_tileAt rfl hx hb hml hown hts hK hO hS hH hl.1 (c_X0_tileAt Γ l t (cO to i 2) _ ht (by first | assumption | exact cO_lt to hto i hi _ (by decide))) ⟨Nat.le_of_ble_eq_true rfl, Nat.le_of_ble_eq_true rfl⟩ ⟨Nat.le_of_ble_eq_true rfl, Nat.le_of_ble_eq_true rfl⟩ rfl (Nat.le_of_ble_eq_true rfl) dX0_gathered_23 (fun v_ f_ H locs hp_ hH hS => ?_)
      obtain ⟨rfl, ef_⟩ := hp_
      rw [ef_] at hH
      clear ef_
      refine W.eq (g2 := F0 m 26 ls [.int (nI (t (cO to i 2)))]) rfl ?_
      refine lv_istore (lv' := [(7, .int (nI (t (cO to i 2)))), (6, .int 2), (5, .int 1), (4, .int (nI (t (cO to i 1)))), (0, .long (b5 t)), (2, .int (nI to)), (3, .int (nI i))]) hx hb dX0_gathered_26 hl (by decide) rfl (fun ls hl => ?_)
      refine lv_iload hx hb dX0_gathered_28 (lv_at hl 0 rfl) ?_
      refine lv_if_eq (tgt := 48) hx hb dX0_gathered_30 (by decide) (fun c16 => ?_) (fun c16 => ?_)
      · refine lv_iinc (v := 3) (lv' := [(6, .int 3), (7, .int (nI (t (cO to i 2)))), (5, .int 1), (4, .int (nI (t (cO to i 1)))), (0, .long (b5 t)), (2, .int (nI to)), (3, .int (nI i))]) hx hb dX0_gathered_48 hl (k := 1) rfl (by decide) (by decide) rfl (fun ls hl => ?_)
        refine lv_goto (tgt := 9) hx hb dX0_gathered_51 (by decide) ?_
        refine lv_iload hx hb dX0_gathered_9 (lv_at hl 0 rfl) ?_
        refine lv_iconst (v := 3) hx hb dX0_gathered_11 (by decide) ?_
        refine lv_icmp_ge (tgt := 54) hx hb dX0_gathered_12 (by decide) (fun _ => ?_) (fun c17 => absurd (by decide) c17)
        refine lv_iload hx hb dX0_gathered_54 (lv_at hl 3 rfl) ?_
        exact hm_iret hx hb hr hlocks hS hH (pI_of (congrArg nI (show t (cO to i 1) = ln (lineT t to i) by have h1 : (t (cO to i 0)) = 0 := (nI_eq (a := t (cO to i 0)) (b := 0) (by have := ht _ (cO_lt to hto i hi 0 (by decide)); omega) (by omega)).mp c2; have h2 : ¬ (t (cO to i 1)) = 0 := (fun qq_ => c4 ((nI_eq (a := t (cO to i 1)) (b := 0) (by have := ht _ (cO_lt to hto i hi 1 (by decide)); omega) (by omega)).mpr qq_)); have h3 : (t (cO to i 2)) = 0 := (nI_eq (a := t (cO to i 2)) (b := 0) (by have := ht _ (cO_lt to hto i hi 2 (by decide)); omega) (by omega)).mp c16; unfold lineT; first | (simp [gat, ln, h1, h2, h3]; done) | (simp [gat, ln, h1, h2, h3]; omega)))) (Nat.le_of_ble_eq_true rfl) (Nat.le_of_ble_eq_true rfl) dX0_gathered_56
      · refine lv_iload hx hb dX0_gathered_33 (lv_at hl 3 rfl) ?_
        refine lv_iload hx hb dX0_gathered_35 (lv_at hl 0 rfl) ?_
        refine lv_iload hx hb dX0_gathered_37 (lv_at hl 2 rfl) ?_
        refine lv_iconst (v := 5) hx hb dX0_gathered_39 (by decide) ?_
        refine lv_imul hx hb dX0_gathered_40 ?_
        refine lv_topi (fun v18 ev18 => ?_)
        have ev18 : v18 = 5 := ev18.trans (by decide)
        subst ev18
        refine lv_ishl hx hb dX0_gathered_41 ?_
        refine lv_topi (fun v19 ev19 => ?_)
        replace ev19 : v19 = nI ((t (cO to i 2)) * 2 ^ 5) := ev19.trans (m_shl (by decide) (by have := ht _ (cO_lt to hto i hi 2 (by decide)); omega))
        subst ev19
        refine lv_ior hx hb dX0_gathered_42 ?_
        refine lv_topi (fun v20 ev20 => ?_)
        replace ev20 : v20 = nI (t (cO to i 1) + (t (cO to i 2)) * 2 ^ 5) := ev20.trans (m_or (by have h0 := ht _ (cO_lt to hto i hi 1 (by decide)); have h1 := ht _ (cO_lt to hto i hi 2 (by decide)); omega) (by have h0 := ht _ (cO_lt to hto i hi 1 (by decide)); have h1 := ht _ (cO_lt to hto i hi 2 (by decide)); omega))
        subst ev20
        refine lv_istore (lv' := [(4, .int (nI (t (cO to i 1) + (t (cO to i 2)) * 2 ^ 5))), (7, .int (nI (t (cO to i 2)))), (6, .int 2), (5, .int 1), (0, .long (b5 t)), (2, .int (nI to)), (3, .int (nI i))]) hx hb dX0_gathered_43 hl (by decide) rfl (fun ls hl => ?_)
        refine lv_iinc (v := 2) (lv' := [(5, .int 2), (4, .int (nI (t (cO to i 1) + (t (cO to i 2)) * 2 ^ 5))), (7, .int (nI (t (cO to i 2)))), (6, .int 2), (0, .long (b5 t)), (2, .int (nI to)), (3, .int (nI i))]) hx hb dX0_gathered_45 hl (k := 3) rfl (by decide) (by decide) rfl (fun ls hl => ?_)
        refine lv_iinc (v := 3) (lv' := [(6, .int 3), (5, .int 2), (4, .int (nI (t (cO to i 1) + (t (cO to i 2)) * 2 ^ 5))), (7, .int (nI (t (cO to i 2)))), (0, .long (b5 t)), (2, .int (nI to)), (3, .int (nI i))]) hx hb dX0_gathered_48 hl (k := 3) rfl (by decide) (by decide) rfl (fun ls hl => ?_)
        refine lv_goto (tgt := 9) hx hb dX0_gathered_51 (by decide) ?_
        refine lv_iload hx hb dX0_gathered_9 (lv_at hl 0 rfl) ?_
        refine lv_iconst (v := 3) hx hb dX0_gathered_11 (by decide) ?_
        refine lv_icmp_ge (tgt := 54) hx hb dX0_gathered_12 (by decide) (fun _ => ?_) (fun c21 => absurd (by decide) c21)
        refine lv_iload hx hb dX0_gathered_54 (lv_at hl 2 rfl) ?_
        exact hm_iret hx hb hr hlocks hS hH (pI_of (congrArg nI (show t (cO to i 1) + (t (cO to i 2)) * 2 ^ 5 = ln (lineT t to i) by have h1 : (t (cO to i 0)) = 0 := (nI_eq (a := t (cO to i 0)) (b := 0) (by have := ht _ (cO_lt to hto i hi 0 (by decide)); omega) (by omega)).mp c2; have h2 : ¬ (t (cO to i 1)) = 0 := (fun qq_ => c4 ((nI_eq (a := t (cO to i 1)) (b := 0) (by have := ht _ (cO_lt to hto i hi 1 (by decide)); omega) (by omega)).mpr qq_)); have h3 : ¬ (t (cO to i 2)) = 0 := (fun qq_ => c16 ((nI_eq (a := t (cO to i 2)) (b := 0) (by have := ht _ (cO_lt to hto i hi 2 (by decide)); omega) (by omega)).mpr qq_)); unfold lineT; first | (simp [gat, ln, h1, h2, h3]; done) | (simp [gat, ln, h1, h2, h3]; omega)))) (Nat.le_of_ble_eq_true rfl) (Nat.le_of_ble_eq_true rfl) dX0_gathered_56
  · refine lv_iload hx hb dX0_gathered_33 (lv_at hl 3 rfl) ?_
    refine lv_iload hx hb dX0_gathered_35 (lv_at hl 0 rfl) ?_
    refine lv_iload hx hb dX0_gathered_37 (lv_at hl 2 rfl) ?_
    refine lv_iconst (v := 5) hx hb dX0_gathered_39 (by decide) ?_
    refine lv_imul hx hb dX0_gathered_40 ?_
    refine lv_topi (fun v22 ev22 => ?_)
    have ev22 : v22 = 0 := ev22.trans (by decide)
    subst ev22
    refine lv_ishl hx hb dX0_gathered_41 ?_
    refine lv_topi (fun v23 ev23 => ?_)
    replace ev23 : v23 = nI ((t (cO to i 0)) * 2 ^ 0) := ev23.trans (m_shl (by decide) (by have := ht _ (cO_lt to hto i hi 0 (by decide)); omega))
    subst ev23
    refine lv_ior hx hb dX0_gathered_42 ?_
    refine lv_topi (fun v24 ev24 => ?_)
    replace ev24 : v24 = nI (t (cO to i 0)) := ev24.trans (by simp)
    subst ev24
    refine lv_istore (lv' := [(4, .int (nI (t (cO to i 0)))), (7, .int (nI (t (cO to i 0)))), (6, .int 0), (5, .int 0), (0, .long (b5 t)), (2, .int (nI to)), (3, .int (nI i))]) hx hb dX0_gathered_43 hl (by decide) rfl (fun ls hl => ?_)
    refine lv_iinc (v := 1) (lv' := [(5, .int 1), (4, .int (nI (t (cO to i 0)))), (7, .int (nI (t (cO to i 0)))), (6, .int 0), (0, .long (b5 t)), (2, .int (nI to)), (3, .int (nI i))]) hx hb dX0_gathered_45 hl (k := 3) rfl (by decide) (by decide) rfl (fun ls hl => ?_)
    refine lv_iinc (v := 1) (lv' := [(6, .int 1), (5, .int 1), (4, .int (nI (t (cO to i 0)))), (7, .int (nI (t (cO to i 0)))), (0, .long (b5 t)), (2, .int (nI to)), (3, .int (nI i))]) hx hb dX0_gathered_48 hl (k := 3) rfl (by decide) (by decide) rfl (fun ls hl => ?_)
    refine lv_goto (tgt := 9) hx hb dX0_gathered_51 (by decide) ?_
    refine lv_iload hx hb dX0_gathered_9 (lv_at hl 0 rfl) ?_
    refine lv_iconst (v := 3) hx hb dX0_gathered_11 (by decide) ?_
    refine lv_icmp_ge (tgt := 54) hx hb dX0_gathered_12 (by decide) (fun c25 => absurd c25 (by decide)) (fun _ => ?_)
    refine lv_lload_n hx hb dX0_gathered_15 rfl (lv_at hl 4 rfl) ?_
    refine lv_iload_n hx hb dX0_gathered_16 rfl (lv_at hl 5 rfl) ?_
    refine lv_iload_n hx hb dX0_gathered_17 rfl (lv_at hl 6 rfl) ?_
    refine lv_iload hx hb dX0_gathered_18 (lv_at hl 0 rfl) ?_
    refine hm_callS (rest := [.long (b5 t)]) (k := 1) q3_98 q3_99 q1_24 q3_100 nm_X0_cellOf rfl hx hb hml hown hts hK hO hS hH hl.1 (c_X0_cellOf Γ l to i 1 _ hto hi (by decide)) ⟨Nat.le_of_ble_eq_true rfl, Nat.le_of_ble_eq_true rfl⟩ ⟨Nat.le_of_ble_eq_true rfl, Nat.le_of_ble_eq_true rfl⟩ rfl (Nat.le_of_ble_eq_true rfl) dX0_gathered_20 (fun v_ f_ H locs hp_ hH hS => ?_)
    obtain ⟨rfl, ef_⟩ := hp_
    rw [ef_] at hH
    clear ef_
    refine W.eq (g2 := F0 m 23 ls [.int (nI (cO to i 1)), .long (b5 t)]) rfl ?_
    refine hm_callS (rest := []) (k := 1) q3_25 q3_26 q1_24 q3_27 nm_X0_tileAt rfl hx hb hml hown hts hK hO hS hH hl.1 (c_X0_tileAt Γ l t (cO to i 1) _ ht (by first | assumption | exact cO_lt to hto i hi _ (by decide))) ⟨Nat.le_of_ble_eq_true rfl, Nat.le_of_ble_eq_true rfl⟩ ⟨Nat.le_of_ble_eq_true rfl, Nat.le_of_ble_eq_true rfl⟩ rfl (Nat.le_of_ble_eq_true rfl) dX0_gathered_23 (fun v_ f_ H locs hp_ hH hS => ?_)
    obtain ⟨rfl, ef_⟩ := hp_
    rw [ef_] at hH
    clear ef_
    refine W.eq (g2 := F0 m 26 ls [.int (nI (t (cO to i 1)))]) rfl ?_
    refine lv_istore (lv' := [(7, .int (nI (t (cO to i 1)))), (6, .int 1), (5, .int 1), (4, .int (nI (t (cO to i 0)))), (0, .long (b5 t)), (2, .int (nI to)), (3, .int (nI i))]) hx hb dX0_gathered_26 hl (by decide) rfl (fun ls hl => ?_)
    refine lv_iload hx hb dX0_gathered_28 (lv_at hl 0 rfl) ?_
    refine lv_if_eq (tgt := 48) hx hb dX0_gathered_30 (by decide) (fun c26 => ?_) (fun c26 => ?_)
    · refine lv_iinc (v := 2) (lv' := [(6, .int 2), (7, .int (nI (t (cO to i 1)))), (5, .int 1), (4, .int (nI (t (cO to i 0)))), (0, .long (b5 t)), (2, .int (nI to)), (3, .int (nI i))]) hx hb dX0_gathered_48 hl (k := 1) rfl (by decide) (by decide) rfl (fun ls hl => ?_)
      refine lv_goto (tgt := 9) hx hb dX0_gathered_51 (by decide) ?_
      refine lv_iload hx hb dX0_gathered_9 (lv_at hl 0 rfl) ?_
      refine lv_iconst (v := 3) hx hb dX0_gathered_11 (by decide) ?_
      refine lv_icmp_ge (tgt := 54) hx hb dX0_gathered_12 (by decide) (fun c27 => absurd c27 (by decide)) (fun _ => ?_)
      refine lv_lload_n hx hb dX0_gathered_15 rfl (lv_at hl 4 rfl) ?_
      refine lv_iload_n hx hb dX0_gathered_16 rfl (lv_at hl 5 rfl) ?_
      refine lv_iload_n hx hb dX0_gathered_17 rfl (lv_at hl 6 rfl) ?_
      refine lv_iload hx hb dX0_gathered_18 (lv_at hl 0 rfl) ?_
      refine hm_callS (rest := [.long (b5 t)]) (k := 1) q3_98 q3_99 q1_24 q3_100 nm_X0_cellOf rfl hx hb hml hown hts hK hO hS hH hl.1 (c_X0_cellOf Γ l to i 2 _ hto hi (by decide)) ⟨Nat.le_of_ble_eq_true rfl, Nat.le_of_ble_eq_true rfl⟩ ⟨Nat.le_of_ble_eq_true rfl, Nat.le_of_ble_eq_true rfl⟩ rfl (Nat.le_of_ble_eq_true rfl) dX0_gathered_20 (fun v_ f_ H locs hp_ hH hS => ?_)
      obtain ⟨rfl, ef_⟩ := hp_
      rw [ef_] at hH
      clear ef_
      refine W.eq (g2 := F0 m 23 ls [.int (nI (cO to i 2)), .long (b5 t)]) rfl ?_
      refine hm_callS (rest := []) (k := 1) q3_25 q3_26 q1_24 q3_27 nm_X0_tileAt rfl hx hb hml hown hts hK hO hS hH hl.1 (c_X0_tileAt Γ l t (cO to i 2) _ ht (by first | assumption | exact cO_lt to hto i hi _ (by decide))) ⟨Nat.le_of_ble_eq_true rfl, Nat.le_of_ble_eq_true rfl⟩ ⟨Nat.le_of_ble_eq_true rfl, Nat.le_of_ble_eq_true rfl⟩ rfl (Nat.le_of_ble_eq_true rfl) dX0_gathered_23 (fun v_ f_ H locs hp_ hH hS => ?_)
      obtain ⟨rfl, ef_⟩ := hp_
      rw [ef_] at hH
      clear ef_
      refine W.eq (g2 := F0 m 26 ls [.int (nI (t (cO to i 2)))]) rfl ?_
      refine lv_istore (lv' := [(7, .int (nI (t (cO to i 2)))), (6, .int 2), (5, .int 1), (4, .int (nI (t (cO to i 0)))), (0, .long (b5 t)), (2, .int (nI to)), (3, .int (nI i))]) hx hb dX0_gathered_26 hl (by decide) rfl (fun ls hl => ?_)
      refine lv_iload hx hb dX0_gathered_28 (lv_at hl 0 rfl) ?_
      refine lv_if_eq (tgt := 48) hx hb dX0_gathered_30 (by decide) (fun c28 => ?_) (fun c28 => ?_)
      · refine lv_iinc (v := 3) (lv' := [(6, .int 3), (7, .int (nI (t (cO to i 2)))), (5, .int 1), (4, .int (nI (t (cO to i 0)))), (0, .long (b5 t)), (2, .int (nI to)), (3, .int (nI i))]) hx hb dX0_gathered_48 hl (k := 1) rfl (by decide) (by decide) rfl (fun ls hl => ?_)
        refine lv_goto (tgt := 9) hx hb dX0_gathered_51 (by decide) ?_
        refine lv_iload hx hb dX0_gathered_9 (lv_at hl 0 rfl) ?_
        refine lv_iconst (v := 3) hx hb dX0_gathered_11 (by decide) ?_
        refine lv_icmp_ge (tgt := 54) hx hb dX0_gathered_12 (by decide) (fun _ => ?_) (fun c29 => absurd (by decide) c29)
        refine lv_iload hx hb dX0_gathered_54 (lv_at hl 3 rfl) ?_
        exact hm_iret hx hb hr hlocks hS hH (pI_of (congrArg nI (show t (cO to i 0) = ln (lineT t to i) by have h1 : ¬ (t (cO to i 0)) = 0 := (fun qq_ => c2 ((nI_eq (a := t (cO to i 0)) (b := 0) (by have := ht _ (cO_lt to hto i hi 0 (by decide)); omega) (by omega)).mpr qq_)); have h2 : (t (cO to i 1)) = 0 := (nI_eq (a := t (cO to i 1)) (b := 0) (by have := ht _ (cO_lt to hto i hi 1 (by decide)); omega) (by omega)).mp c26; have h3 : (t (cO to i 2)) = 0 := (nI_eq (a := t (cO to i 2)) (b := 0) (by have := ht _ (cO_lt to hto i hi 2 (by decide)); omega) (by omega)).mp c28; unfold lineT; first | (simp [gat, ln, h1, h2, h3]; done) | (simp [gat, ln, h1, h2, h3]; omega)))) (Nat.le_of_ble_eq_true rfl) (Nat.le_of_ble_eq_true rfl) dX0_gathered_56
      · refine lv_iload hx hb dX0_gathered_33 (lv_at hl 3 rfl) ?_
        refine lv_iload hx hb dX0_gathered_35 (lv_at hl 0 rfl) ?_
        refine lv_iload hx hb dX0_gathered_37 (lv_at hl 2 rfl) ?_
        refine lv_iconst (v := 5) hx hb dX0_gathered_39 (by decide) ?_
        refine lv_imul hx hb dX0_gathered_40 ?_
        refine lv_topi (fun v30 ev30 => ?_)
        have ev30 : v30 = 5 := ev30.trans (by decide)
        subst ev30
        refine lv_ishl hx hb dX0_gathered_41 ?_
        refine lv_topi (fun v31 ev31 => ?_)
        replace ev31 : v31 = nI ((t (cO to i 2)) * 2 ^ 5) := ev31.trans (m_shl (by decide) (by have := ht _ (cO_lt to hto i hi 2 (by decide)); omega))
        subst ev31
        refine lv_ior hx hb dX0_gathered_42 ?_
        refine lv_topi (fun v32 ev32 => ?_)
        replace ev32 : v32 = nI (t (cO to i 0) + (t (cO to i 2)) * 2 ^ 5) := ev32.trans (m_or (by have h0 := ht _ (cO_lt to hto i hi 0 (by decide)); have h1 := ht _ (cO_lt to hto i hi 2 (by decide)); omega) (by have h0 := ht _ (cO_lt to hto i hi 0 (by decide)); have h1 := ht _ (cO_lt to hto i hi 2 (by decide)); omega))
        subst ev32
        refine lv_istore (lv' := [(4, .int (nI (t (cO to i 0) + (t (cO to i 2)) * 2 ^ 5))), (7, .int (nI (t (cO to i 2)))), (6, .int 2), (5, .int 1), (0, .long (b5 t)), (2, .int (nI to)), (3, .int (nI i))]) hx hb dX0_gathered_43 hl (by decide) rfl (fun ls hl => ?_)
        refine lv_iinc (v := 2) (lv' := [(5, .int 2), (4, .int (nI (t (cO to i 0) + (t (cO to i 2)) * 2 ^ 5))), (7, .int (nI (t (cO to i 2)))), (6, .int 2), (0, .long (b5 t)), (2, .int (nI to)), (3, .int (nI i))]) hx hb dX0_gathered_45 hl (k := 3) rfl (by decide) (by decide) rfl (fun ls hl => ?_)
        refine lv_iinc (v := 3) (lv' := [(6, .int 3), (5, .int 2), (4, .int (nI (t (cO to i 0) + (t (cO to i 2)) * 2 ^ 5))), (7, .int (nI (t (cO to i 2)))), (0, .long (b5 t)), (2, .int (nI to)), (3, .int (nI i))]) hx hb dX0_gathered_48 hl (k := 3) rfl (by decide) (by decide) rfl (fun ls hl => ?_)
        refine lv_goto (tgt := 9) hx hb dX0_gathered_51 (by decide) ?_
        refine lv_iload hx hb dX0_gathered_9 (lv_at hl 0 rfl) ?_
        refine lv_iconst (v := 3) hx hb dX0_gathered_11 (by decide) ?_
        refine lv_icmp_ge (tgt := 54) hx hb dX0_gathered_12 (by decide) (fun _ => ?_) (fun c33 => absurd (by decide) c33)
        refine lv_iload hx hb dX0_gathered_54 (lv_at hl 2 rfl) ?_
        exact hm_iret hx hb hr hlocks hS hH (pI_of (congrArg nI (show t (cO to i 0) + (t (cO to i 2)) * 2 ^ 5 = ln (lineT t to i) by have h1 : ¬ (t (cO to i 0)) = 0 := (fun qq_ => c2 ((nI_eq (a := t (cO to i 0)) (b := 0) (by have := ht _ (cO_lt to hto i hi 0 (by decide)); omega) (by omega)).mpr qq_)); have h2 : (t (cO to i 1)) = 0 := (nI_eq (a := t (cO to i 1)) (b := 0) (by have := ht _ (cO_lt to hto i hi 1 (by decide)); omega) (by omega)).mp c26; have h3 : ¬ (t (cO to i 2)) = 0 := (fun qq_ => c28 ((nI_eq (a := t (cO to i 2)) (b := 0) (by have := ht _ (cO_lt to hto i hi 2 (by decide)); omega) (by omega)).mpr qq_)); unfold lineT; first | (simp [gat, ln, h1, h2, h3]; done) | (simp [gat, ln, h1, h2, h3]; omega)))) (Nat.le_of_ble_eq_true rfl) (Nat.le_of_ble_eq_true rfl) dX0_gathered_56
    · refine lv_iload hx hb dX0_gathered_33 (lv_at hl 3 rfl) ?_
      refine lv_iload hx hb dX0_gathered_35 (lv_at hl 0 rfl) ?_
      refine lv_iload hx hb dX0_gathered_37 (lv_at hl 2 rfl) ?_
      refine lv_iconst (v := 5) hx hb dX0_gathered_39 (by decide) ?_
      refine lv_imul hx hb dX0_gathered_40 ?_
      refine lv_topi (fun v34 ev34 => ?_)
      have ev34 : v34 = 5 := ev34.trans (by decide)
      subst ev34
      refine lv_ishl hx hb dX0_gathered_41 ?_
      refine lv_topi (fun v35 ev35 => ?_)
      replace ev35 : v35 = nI ((t (cO to i 1)) * 2 ^ 5) := ev35.trans (m_shl (by decide) (by have := ht _ (cO_lt to hto i hi 1 (by decide)); omega))
      subst ev35
      refine lv_ior hx hb dX0_gathered_42 ?_
      refine lv_topi (fun v36 ev36 => ?_)
      replace ev36 : v36 = nI (t (cO to i 0) + (t (cO to i 1)) * 2 ^ 5) := ev36.trans (m_or (by have h0 := ht _ (cO_lt to hto i hi 0 (by decide)); have h1 := ht _ (cO_lt to hto i hi 1 (by decide)); omega) (by have h0 := ht _ (cO_lt to hto i hi 0 (by decide)); have h1 := ht _ (cO_lt to hto i hi 1 (by decide)); omega))
      subst ev36
      refine lv_istore (lv' := [(4, .int (nI (t (cO to i 0) + (t (cO to i 1)) * 2 ^ 5))), (7, .int (nI (t (cO to i 1)))), (6, .int 1), (5, .int 1), (0, .long (b5 t)), (2, .int (nI to)), (3, .int (nI i))]) hx hb dX0_gathered_43 hl (by decide) rfl (fun ls hl => ?_)
      refine lv_iinc (v := 2) (lv' := [(5, .int 2), (4, .int (nI (t (cO to i 0) + (t (cO to i 1)) * 2 ^ 5))), (7, .int (nI (t (cO to i 1)))), (6, .int 1), (0, .long (b5 t)), (2, .int (nI to)), (3, .int (nI i))]) hx hb dX0_gathered_45 hl (k := 3) rfl (by decide) (by decide) rfl (fun ls hl => ?_)
      refine lv_iinc (v := 2) (lv' := [(6, .int 2), (5, .int 2), (4, .int (nI (t (cO to i 0) + (t (cO to i 1)) * 2 ^ 5))), (7, .int (nI (t (cO to i 1)))), (0, .long (b5 t)), (2, .int (nI to)), (3, .int (nI i))]) hx hb dX0_gathered_48 hl (k := 3) rfl (by decide) (by decide) rfl (fun ls hl => ?_)
      refine lv_goto (tgt := 9) hx hb dX0_gathered_51 (by decide) ?_
      refine lv_iload hx hb dX0_gathered_9 (lv_at hl 0 rfl) ?_
      refine lv_iconst (v := 3) hx hb dX0_gathered_11 (by decide) ?_
      refine lv_icmp_ge (tgt := 54) hx hb dX0_gathered_12 (by decide) (fun c37 => absurd c37 (by decide)) (fun _ => ?_)
      refine lv_lload_n hx hb dX0_gathered_15 rfl (lv_at hl 4 rfl) ?_
      refine lv_iload_n hx hb dX0_gathered_16 rfl (lv_at hl 5 rfl) ?_
      refine lv_iload_n hx hb dX0_gathered_17 rfl (lv_at hl 6 rfl) ?_
      refine lv_iload hx hb dX0_gathered_18 (lv_at hl 0 rfl) ?_
      refine hm_callS (rest := [.long (b5 t)]) (k := 1) q3_98 q3_99 q1_24 q3_100 nm_X0_cellOf rfl hx hb hml hown hts hK hO hS hH hl.1 (c_X0_cellOf Γ l to i 2 _ hto hi (by decide)) ⟨Nat.le_of_ble_eq_true rfl, Nat.le_of_ble_eq_true rfl⟩ ⟨Nat.le_of_ble_eq_true rfl, Nat.le_of_ble_eq_true rfl⟩ rfl (Nat.le_of_ble_eq_true rfl) dX0_gathered_20 (fun v_ f_ H locs hp_ hH hS => ?_)
      obtain ⟨rfl, ef_⟩ := hp_
      rw [ef_] at hH
      clear ef_
      refine W.eq (g2 := F0 m 23 ls [.int (nI (cO to i 2)), .long (b5 t)]) rfl ?_
      refine hm_callS (rest := []) (k := 1) q3_25 q3_26 q1_24 q3_27 nm_X0_tileAt rfl hx hb hml hown hts hK hO hS hH hl.1 (c_X0_tileAt Γ l t (cO to i 2) _ ht (by first | assumption | exact cO_lt to hto i hi _ (by decide))) ⟨Nat.le_of_ble_eq_true rfl, Nat.le_of_ble_eq_true rfl⟩ ⟨Nat.le_of_ble_eq_true rfl, Nat.le_of_ble_eq_true rfl⟩ rfl (Nat.le_of_ble_eq_true rfl) dX0_gathered_23 (fun v_ f_ H locs hp_ hH hS => ?_)
      obtain ⟨rfl, ef_⟩ := hp_
      rw [ef_] at hH
      clear ef_
      refine W.eq (g2 := F0 m 26 ls [.int (nI (t (cO to i 2)))]) rfl ?_
      refine lv_istore (lv' := [(7, .int (nI (t (cO to i 2)))), (6, .int 2), (5, .int 2), (4, .int (nI (t (cO to i 0) + (t (cO to i 1)) * 2 ^ 5))), (0, .long (b5 t)), (2, .int (nI to)), (3, .int (nI i))]) hx hb dX0_gathered_26 hl (by decide) rfl (fun ls hl => ?_)
      refine lv_iload hx hb dX0_gathered_28 (lv_at hl 0 rfl) ?_
      refine lv_if_eq (tgt := 48) hx hb dX0_gathered_30 (by decide) (fun c38 => ?_) (fun c38 => ?_)
      · refine lv_iinc (v := 3) (lv' := [(6, .int 3), (7, .int (nI (t (cO to i 2)))), (5, .int 2), (4, .int (nI (t (cO to i 0) + (t (cO to i 1)) * 2 ^ 5))), (0, .long (b5 t)), (2, .int (nI to)), (3, .int (nI i))]) hx hb dX0_gathered_48 hl (k := 1) rfl (by decide) (by decide) rfl (fun ls hl => ?_)
        refine lv_goto (tgt := 9) hx hb dX0_gathered_51 (by decide) ?_
        refine lv_iload hx hb dX0_gathered_9 (lv_at hl 0 rfl) ?_
        refine lv_iconst (v := 3) hx hb dX0_gathered_11 (by decide) ?_
        refine lv_icmp_ge (tgt := 54) hx hb dX0_gathered_12 (by decide) (fun _ => ?_) (fun c39 => absurd (by decide) c39)
        refine lv_iload hx hb dX0_gathered_54 (lv_at hl 3 rfl) ?_
        exact hm_iret hx hb hr hlocks hS hH (pI_of (congrArg nI (show t (cO to i 0) + (t (cO to i 1)) * 2 ^ 5 = ln (lineT t to i) by have h1 : ¬ (t (cO to i 0)) = 0 := (fun qq_ => c2 ((nI_eq (a := t (cO to i 0)) (b := 0) (by have := ht _ (cO_lt to hto i hi 0 (by decide)); omega) (by omega)).mpr qq_)); have h2 : ¬ (t (cO to i 1)) = 0 := (fun qq_ => c26 ((nI_eq (a := t (cO to i 1)) (b := 0) (by have := ht _ (cO_lt to hto i hi 1 (by decide)); omega) (by omega)).mpr qq_)); have h3 : (t (cO to i 2)) = 0 := (nI_eq (a := t (cO to i 2)) (b := 0) (by have := ht _ (cO_lt to hto i hi 2 (by decide)); omega) (by omega)).mp c38; unfold lineT; first | (simp [gat, ln, h1, h2, h3]; done) | (simp [gat, ln, h1, h2, h3]; omega)))) (Nat.le_of_ble_eq_true rfl) (Nat.le_of_ble_eq_true rfl) dX0_gathered_56
      · refine lv_iload hx hb dX0_gathered_33 (lv_at hl 3 rfl) ?_
        refine lv_iload hx hb dX0_gathered_35 (lv_at hl 0 rfl) ?_
        refine lv_iload hx hb dX0_gathered_37 (lv_at hl 2 rfl) ?_
        refine lv_iconst (v := 5) hx hb dX0_gathered_39 (by decide) ?_
        refine lv_imul hx hb dX0_gathered_40 ?_
        refine lv_topi (fun v40 ev40 => ?_)
        have ev40 : v40 = 10 := ev40.trans (by decide)
        subst ev40
        refine lv_ishl hx hb dX0_gathered_41 ?_
        refine lv_topi (fun v41 ev41 => ?_)
        replace ev41 : v41 = nI ((t (cO to i 2)) * 2 ^ 10) := ev41.trans (m_shl (by decide) (by have := ht _ (cO_lt to hto i hi 2 (by decide)); omega))
        subst ev41
        refine lv_ior hx hb dX0_gathered_42 ?_
        refine lv_topi (fun v42 ev42 => ?_)
        replace ev42 : v42 = nI (t (cO to i 0) + (t (cO to i 1)) * 2 ^ 5 + (t (cO to i 2)) * 2 ^ 10) := ev42.trans (m_or (by have h0 := ht _ (cO_lt to hto i hi 0 (by decide)); have h1 := ht _ (cO_lt to hto i hi 1 (by decide)); have h2 := ht _ (cO_lt to hto i hi 2 (by decide)); omega) (by have h0 := ht _ (cO_lt to hto i hi 0 (by decide)); have h1 := ht _ (cO_lt to hto i hi 1 (by decide)); have h2 := ht _ (cO_lt to hto i hi 2 (by decide)); omega))
        subst ev42
        refine lv_istore (lv' := [(4, .int (nI (t (cO to i 0) + (t (cO to i 1)) * 2 ^ 5 + (t (cO to i 2)) * 2 ^ 10))), (7, .int (nI (t (cO to i 2)))), (6, .int 2), (5, .int 2), (0, .long (b5 t)), (2, .int (nI to)), (3, .int (nI i))]) hx hb dX0_gathered_43 hl (by decide) rfl (fun ls hl => ?_)
        refine lv_iinc (v := 3) (lv' := [(5, .int 3), (4, .int (nI (t (cO to i 0) + (t (cO to i 1)) * 2 ^ 5 + (t (cO to i 2)) * 2 ^ 10))), (7, .int (nI (t (cO to i 2)))), (6, .int 2), (0, .long (b5 t)), (2, .int (nI to)), (3, .int (nI i))]) hx hb dX0_gathered_45 hl (k := 3) rfl (by decide) (by decide) rfl (fun ls hl => ?_)
        refine lv_iinc (v := 3) (lv' := [(6, .int 3), (5, .int 3), (4, .int (nI (t (cO to i 0) + (t (cO to i 1)) * 2 ^ 5 + (t (cO to i 2)) * 2 ^ 10))), (7, .int (nI (t (cO to i 2)))), (0, .long (b5 t)), (2, .int (nI to)), (3, .int (nI i))]) hx hb dX0_gathered_48 hl (k := 3) rfl (by decide) (by decide) rfl (fun ls hl => ?_)
        refine lv_goto (tgt := 9) hx hb dX0_gathered_51 (by decide) ?_
        refine lv_iload hx hb dX0_gathered_9 (lv_at hl 0 rfl) ?_
        refine lv_iconst (v := 3) hx hb dX0_gathered_11 (by decide) ?_
        refine lv_icmp_ge (tgt := 54) hx hb dX0_gathered_12 (by decide) (fun _ => ?_) (fun c43 => absurd (by decide) c43)
        refine lv_iload hx hb dX0_gathered_54 (lv_at hl 2 rfl) ?_
        exact hm_iret hx hb hr hlocks hS hH (pI_of (congrArg nI (show t (cO to i 0) + (t (cO to i 1)) * 2 ^ 5 + (t (cO to i 2)) * 2 ^ 10 = ln (lineT t to i) by have h1 : ¬ (t (cO to i 0)) = 0 := (fun qq_ => c2 ((nI_eq (a := t (cO to i 0)) (b := 0) (by have := ht _ (cO_lt to hto i hi 0 (by decide)); omega) (by omega)).mpr qq_)); have h2 : ¬ (t (cO to i 1)) = 0 := (fun qq_ => c26 ((nI_eq (a := t (cO to i 1)) (b := 0) (by have := ht _ (cO_lt to hto i hi 1 (by decide)); omega) (by omega)).mpr qq_)); have h3 : ¬ (t (cO to i 2)) = 0 := (fun qq_ => c38 ((nI_eq (a := t (cO to i 2)) (b := 0) (by have := ht _ (cO_lt to hto i hi 2 (by decide)); omega) (by omega)).mpr qq_)); unfold lineT; first | (simp [gat, ln, h1, h2, h3]; done) | (simp [gat, ln, h1, h2, h3]; omega)))) (Nat.le_of_ble_eq_true rfl) (Nat.le_of_ble_eq_true rfl) dX0_gathered_56
set_option maxHeartbeats 4000000 in
set_option maxRecDepth 100000 in
theorem c_X0_mergingPlace (Γ : Gm) (l : Launch) (q : Nat × Nat × Nat) (f : Hm) (hq : q.1 < 32 ∧ q.2.1 < 32 ∧ q.2.2 < 32) : Ct Γ l yX0_mergingPlace cX0_mergingPlace 4 (some .int) 1 0 0 [.int (nI (ln q))] f (pI (mpI q) f) := by
  refine Ct_of (by decide +kernel) (Nat.le_of_ble_eq_true rfl) ?_
  intro p e s m args below meth c hx hb hr hml hown hin hlocks hts hH hO hK ls hl
  have hl : lv_has ls 4 [(0, .int (nI (ln q)))] := hl
  have hS : va_S (gA Γ) s.heap s.heap [] := va_S.rf
  refine lv_iload_n hx hb dX0_mergingPlace_0 rfl (lv_at hl 0 rfl) ?_
  refine lv_bipush (v := 31) hx hb dX0_mergingPlace_1 (by decide) ?_
  refine lv_iand hx hb dX0_mergingPlace_3 ?_
  refine lv_topi (fun v1 ev1 => ?_)
  replace ev1 : v1 = nI q.1 := ev1.trans ((m_mp hq).1)
  subst ev1
  refine lv_istore_n (lv' := [(1, .int (nI q.1)), (0, .int (nI (ln q)))]) hx hb dX0_mergingPlace_4 rfl hl (by decide) rfl (fun ls hl => ?_)
  refine lv_iload_n hx hb dX0_mergingPlace_5 rfl (lv_at hl 1 rfl) ?_
  refine lv_iconst (v := 5) hx hb dX0_mergingPlace_6 (by decide) ?_
  refine lv_ishr hx hb dX0_mergingPlace_7 ?_
  refine lv_topi (fun v2 ev2 => ?_)
  refine lv_bipush (v := 31) hx hb dX0_mergingPlace_8 (by decide) ?_
  refine lv_iand hx hb dX0_mergingPlace_10 ?_
  refine lv_topi (fun v3 ev3 => ?_)
  replace ev3 : v3 = nI q.2.1 := ev3.trans (by subst_vars; exact (m_mp hq).2.1)
  subst ev3
  refine lv_istore_n (lv' := [(2, .int (nI q.2.1)), (1, .int (nI q.1)), (0, .int (nI (ln q)))]) hx hb dX0_mergingPlace_11 rfl hl (by decide) rfl (fun ls hl => ?_)
  refine lv_iload_n hx hb dX0_mergingPlace_12 rfl (lv_at hl 2 rfl) ?_
  refine lv_bipush (v := 10) hx hb dX0_mergingPlace_13 (by decide) ?_
  refine lv_ishr hx hb dX0_mergingPlace_15 ?_
  refine lv_topi (fun v4 ev4 => ?_)
  refine lv_bipush (v := 31) hx hb dX0_mergingPlace_16 (by decide) ?_
  refine lv_iand hx hb dX0_mergingPlace_18 ?_
  refine lv_topi (fun v5 ev5 => ?_)
  replace ev5 : v5 = nI q.2.2 := ev5.trans (by subst_vars; exact (m_mp hq).2.2)
  subst ev5
  refine lv_istore_n (lv' := [(3, .int (nI q.2.2)), (2, .int (nI q.2.1)), (1, .int (nI q.1)), (0, .int (nI (ln q)))]) hx hb dX0_mergingPlace_19 rfl hl (by decide) rfl (fun ls hl => ?_)
  refine lv_iload_n hx hb dX0_mergingPlace_20 rfl (lv_at hl 2 rfl) ?_
  refine lv_if_eq (tgt := 31) hx hb dX0_mergingPlace_21 (by decide) (fun c6 => ?_) (fun c6 => ?_)
  · refine lv_iload_n hx hb dX0_mergingPlace_31 rfl (lv_at hl 1 rfl) ?_
    refine lv_if_eq (tgt := 44) hx hb dX0_mergingPlace_32 (by decide) (fun c7 => ?_) (fun c7 => ?_)
    · refine lv_iconst (v := (-1)) hx hb dX0_mergingPlace_44 (by decide) ?_
      subst ev4
      subst ev2
      exact hm_iret hx hb hr hlocks hS hH (pI_of (by obtain ⟨g1, g2, g3⟩ := hq; have h1 : q.1 = 0 := (nI_eq (a := q.1) (b := 0) (by omega) (by omega)).mp c6; have h2 : q.2.1 = 0 := (nI_eq (a := q.2.1) (b := 0) (by omega) (by omega)).mp c7; unfold mpI; (repeat' split) <;> first | rfl | (exfalso; omega))) (Nat.le_of_ble_eq_true rfl) (Nat.le_of_ble_eq_true rfl) dX0_mergingPlace_45
    · refine lv_iload_n hx hb dX0_mergingPlace_35 rfl (lv_at hl 1 rfl) ?_
      refine lv_iload_n hx hb dX0_mergingPlace_36 rfl (lv_at hl 0 rfl) ?_
      refine lv_icmp_ne (tgt := 44) hx hb dX0_mergingPlace_37 (by decide) (fun c8 => ?_) (fun c8 => ?_)
      · refine lv_iconst (v := (-1)) hx hb dX0_mergingPlace_44 (by decide) ?_
        subst ev4
        subst ev2
        exact hm_iret hx hb hr hlocks hS hH (pI_of (by obtain ⟨g1, g2, g3⟩ := hq; have h1 : q.1 = 0 := (nI_eq (a := q.1) (b := 0) (by omega) (by omega)).mp c6; have h2 : ¬ q.2.1 = 0 := (fun qq_ => c7 ((nI_eq (a := q.2.1) (b := 0) (by omega) (by omega)).mpr qq_)); have h3 : ¬ q.2.1 = q.2.2 := (fun qq_ => c8 ((nI_eq (a := q.2.1) (b := q.2.2) (by omega) (by omega)).mpr qq_)); unfold mpI; (repeat' split) <;> first | rfl | (exfalso; omega))) (Nat.le_of_ble_eq_true rfl) (Nat.le_of_ble_eq_true rfl) dX0_mergingPlace_45
      · refine lv_iconst (v := 1) hx hb dX0_mergingPlace_40 (by decide) ?_
        refine lv_goto (tgt := 45) hx hb dX0_mergingPlace_41 (by decide) ?_
        subst ev4
        subst ev2
        exact hm_iret hx hb hr hlocks hS hH (pI_of (by obtain ⟨g1, g2, g3⟩ := hq; have h1 : q.1 = 0 := (nI_eq (a := q.1) (b := 0) (by omega) (by omega)).mp c6; have h2 : ¬ q.2.1 = 0 := (fun qq_ => c7 ((nI_eq (a := q.2.1) (b := 0) (by omega) (by omega)).mpr qq_)); have h3 : q.2.1 = q.2.2 := (nI_eq (a := q.2.1) (b := q.2.2) (by omega) (by omega)).mp c8; unfold mpI; (repeat' split) <;> first | rfl | (exfalso; omega))) (Nat.le_of_ble_eq_true rfl) (Nat.le_of_ble_eq_true rfl) dX0_mergingPlace_45
  · refine lv_iload_n hx hb dX0_mergingPlace_24 rfl (lv_at hl 2 rfl) ?_
    refine lv_iload_n hx hb dX0_mergingPlace_25 rfl (lv_at hl 1 rfl) ?_
    refine lv_icmp_ne (tgt := 31) hx hb dX0_mergingPlace_26 (by decide) (fun c9 => ?_) (fun c9 => ?_)
    · refine lv_iload_n hx hb dX0_mergingPlace_31 rfl (lv_at hl 1 rfl) ?_
      refine lv_if_eq (tgt := 44) hx hb dX0_mergingPlace_32 (by decide) (fun c10 => ?_) (fun c10 => ?_)
      · refine lv_iconst (v := (-1)) hx hb dX0_mergingPlace_44 (by decide) ?_
        subst ev4
        subst ev2
        exact hm_iret hx hb hr hlocks hS hH (pI_of (by obtain ⟨g1, g2, g3⟩ := hq; have h1 : ¬ q.1 = 0 := (fun qq_ => c6 ((nI_eq (a := q.1) (b := 0) (by omega) (by omega)).mpr qq_)); have h2 : ¬ q.1 = q.2.1 := (fun qq_ => c9 ((nI_eq (a := q.1) (b := q.2.1) (by omega) (by omega)).mpr qq_)); have h3 : q.2.1 = 0 := (nI_eq (a := q.2.1) (b := 0) (by omega) (by omega)).mp c10; unfold mpI; (repeat' split) <;> first | rfl | (exfalso; omega))) (Nat.le_of_ble_eq_true rfl) (Nat.le_of_ble_eq_true rfl) dX0_mergingPlace_45
      · refine lv_iload_n hx hb dX0_mergingPlace_35 rfl (lv_at hl 1 rfl) ?_
        refine lv_iload_n hx hb dX0_mergingPlace_36 rfl (lv_at hl 0 rfl) ?_
        refine lv_icmp_ne (tgt := 44) hx hb dX0_mergingPlace_37 (by decide) (fun c11 => ?_) (fun c11 => ?_)
        · refine lv_iconst (v := (-1)) hx hb dX0_mergingPlace_44 (by decide) ?_
          subst ev4
          subst ev2
          exact hm_iret hx hb hr hlocks hS hH (pI_of (by obtain ⟨g1, g2, g3⟩ := hq; have h1 : ¬ q.1 = 0 := (fun qq_ => c6 ((nI_eq (a := q.1) (b := 0) (by omega) (by omega)).mpr qq_)); have h2 : ¬ q.1 = q.2.1 := (fun qq_ => c9 ((nI_eq (a := q.1) (b := q.2.1) (by omega) (by omega)).mpr qq_)); have h3 : ¬ q.2.1 = 0 := (fun qq_ => c10 ((nI_eq (a := q.2.1) (b := 0) (by omega) (by omega)).mpr qq_)); have h4 : ¬ q.2.1 = q.2.2 := (fun qq_ => c11 ((nI_eq (a := q.2.1) (b := q.2.2) (by omega) (by omega)).mpr qq_)); unfold mpI; (repeat' split) <;> first | rfl | (exfalso; omega))) (Nat.le_of_ble_eq_true rfl) (Nat.le_of_ble_eq_true rfl) dX0_mergingPlace_45
        · refine lv_iconst (v := 1) hx hb dX0_mergingPlace_40 (by decide) ?_
          refine lv_goto (tgt := 45) hx hb dX0_mergingPlace_41 (by decide) ?_
          subst ev4
          subst ev2
          exact hm_iret hx hb hr hlocks hS hH (pI_of (by obtain ⟨g1, g2, g3⟩ := hq; have h1 : ¬ q.1 = 0 := (fun qq_ => c6 ((nI_eq (a := q.1) (b := 0) (by omega) (by omega)).mpr qq_)); have h2 : ¬ q.1 = q.2.1 := (fun qq_ => c9 ((nI_eq (a := q.1) (b := q.2.1) (by omega) (by omega)).mpr qq_)); have h3 : ¬ q.2.1 = 0 := (fun qq_ => c10 ((nI_eq (a := q.2.1) (b := 0) (by omega) (by omega)).mpr qq_)); have h4 : q.2.1 = q.2.2 := (nI_eq (a := q.2.1) (b := q.2.2) (by omega) (by omega)).mp c11; unfold mpI; (repeat' split) <;> first | rfl | (exfalso; omega))) (Nat.le_of_ble_eq_true rfl) (Nat.le_of_ble_eq_true rfl) dX0_mergingPlace_45
    · refine lv_iconst (v := 0) hx hb dX0_mergingPlace_29 (by decide) ?_
      subst ev4
      subst ev2
      exact hm_iret hx hb hr hlocks hS hH (pI_of (by obtain ⟨g1, g2, g3⟩ := hq; have h1 : ¬ q.1 = 0 := (fun qq_ => c6 ((nI_eq (a := q.1) (b := 0) (by omega) (by omega)).mpr qq_)); have h2 : q.1 = q.2.1 := (nI_eq (a := q.1) (b := q.2.1) (by omega) (by omega)).mp c9; unfold mpI; (repeat' split) <;> first | rfl | (exfalso; omega))) (Nat.le_of_ble_eq_true rfl) (Nat.le_of_ble_eq_true rfl) dX0_mergingPlace_30
set_option maxHeartbeats 4000000 in
set_option maxRecDepth 100000 in
theorem c_X0_merged (Γ : Gm) (l : Launch) (q : Nat × Nat × Nat) (f : Hm) (hq : q.1 < 31 ∧ q.2.1 < 31 ∧ q.2.2 < 31) : Ct Γ l yX0_merged cX0_merged 5 (some .int) 2 0 0 [.int (nI (ln q))] f (pI (nI (ln (mg q))) f) := by
  refine Ct_of (by decide +kernel) (Nat.le_of_ble_eq_true rfl) ?_
  intro p e s m args below meth c hx hb hr hml hown hin hlocks hts hH hO hK ls hl
  have hl : lv_has ls 5 [(0, .int (nI (ln q)))] := hl
  have hS : va_S (gA Γ) s.heap s.heap [] := va_S.rf
  have hq2 : q.1 < 32 ∧ q.2.1 < 32 ∧ q.2.2 < 32 := ⟨by omega, by omega, by omega⟩
  by_cases h1 : q.1 ≠ 0 ∧ q.1 = q.2.1
  · refine lv_iload_n hx hb dX0_merged_0 rfl (lv_at hl 0 rfl) ?_
    refine hm_callS (rest := []) (k := 1) q3_104 q3_105 q1_24 q3_106 nm_X0_mergingPlace rfl hx hb hml hown hts hK hO hS hH hl.1 (c_X0_mergingPlace Γ l q _ hq2) ⟨Nat.le_of_ble_eq_true rfl, Nat.le_of_ble_eq_true rfl⟩ ⟨Nat.le_of_ble_eq_true rfl, Nat.le_of_ble_eq_true rfl⟩ rfl (Nat.le_of_ble_eq_true rfl) dX0_merged_1 (fun v_ f_ H locs hp_ hH hS => ?_)
    obtain ⟨rfl, ef_⟩ := hp_
    rw [ef_] at hH
    clear ef_
    refine W.eq (g2 := F0 m 4 ls [.int (mpI q)]) rfl ?_
    rw [show mpI q = 0 from if_pos h1]
    refine lv_istore_n (lv' := [(1, .int 0), (0, .int (nI (ln q)))]) hx hb dX0_merged_4 rfl hl (by decide) rfl (fun ls hl => ?_)
    refine lv_iload_n hx hb dX0_merged_5 rfl (lv_at hl 0 rfl) ?_
    refine lv_iconst (v := (-1)) hx hb dX0_merged_6 (by decide) ?_
    refine lv_icmp_ne (tgt := 12) hx hb dX0_merged_7 (by decide) (fun _ => ?_) (fun c1 => absurd c1 (by decide))
    refine lv_iload_n hx hb dX0_merged_12 rfl (lv_at hl 0 rfl) ?_
    refine lv_iconst (v := 5) hx hb dX0_merged_13 (by decide) ?_
    refine lv_imul hx hb dX0_merged_14 ?_
    refine lv_topi (fun v2 ev2 => ?_)
    have ev2 : v2 = 0 := ev2.trans (by decide)
    subst ev2
    refine lv_istore_n (lv' := [(2, .int 0), (1, .int 0), (0, .int (nI (ln q)))]) hx hb dX0_merged_15 rfl hl (by decide) rfl (fun ls hl => ?_)
    refine lv_iload_n hx hb dX0_merged_16 rfl (lv_at hl 2 rfl) ?_
    refine lv_iconst (v := 1) hx hb dX0_merged_17 (by decide) ?_
    refine lv_iload_n hx hb dX0_merged_18 rfl (lv_at hl 0 rfl) ?_
    refine lv_ishl hx hb dX0_merged_19 ?_
    refine lv_topi (fun v3 ev3 => ?_)
    have ev3 : v3 = 1 := ev3.trans (by decide)
    subst ev3
    refine lv_iconst (v := 1) hx hb dX0_merged_20 (by decide) ?_
    refine lv_isub hx hb dX0_merged_21 ?_
    refine lv_topi (fun v4 ev4 => ?_)
    have ev4 : v4 = 0 := ev4.trans (by decide)
    subst ev4
    refine lv_iand hx hb dX0_merged_22 ?_
    refine lv_topi (fun v5 ev5 => ?_)
    refine lv_istore_n (lv' := [(3, .int v5), (2, .int 0), (1, .int 0), (0, .int (nI (ln q)))]) hx hb dX0_merged_23 rfl hl (by decide) rfl (fun ls hl => ?_)
    refine lv_iload_n hx hb dX0_merged_24 rfl (lv_at hl 3 rfl) ?_
    refine lv_iload_n hx hb dX0_merged_25 rfl (lv_at hl 1 rfl) ?_
    refine lv_iconst (v := 5) hx hb dX0_merged_26 (by decide) ?_
    refine lv_iadd hx hb dX0_merged_27 ?_
    refine lv_topi (fun v6 ev6 => ?_)
    have ev6 : v6 = 5 := ev6.trans (by decide)
    subst ev6
    refine lv_iconst (v := 5) hx hb dX0_merged_28 (by decide) ?_
    refine lv_iadd hx hb dX0_merged_29 ?_
    refine lv_topi (fun v7 ev7 => ?_)
    have ev7 : v7 = 10 := ev7.trans (by decide)
    subst ev7
    refine lv_ishr hx hb dX0_merged_30 ?_
    refine lv_topi (fun v8 ev8 => ?_)
    refine lv_istore (lv' := [(4, .int v8), (3, .int v5), (2, .int 0), (1, .int 0), (0, .int (nI (ln q)))]) hx hb dX0_merged_31 hl (by decide) rfl (fun ls hl => ?_)
    refine lv_iload_n hx hb dX0_merged_33 rfl (lv_at hl 1 rfl) ?_
    refine lv_iload_n hx hb dX0_merged_34 rfl (lv_at hl 4 rfl) ?_
    refine lv_iload_n hx hb dX0_merged_35 rfl (lv_at hl 3 rfl) ?_
    refine hm_callS (rest := [.int v5]) (k := 1) q3_107 q3_108 q1_24 q3_109 nm_X0_tileIn rfl hx hb hml hown hts hK hO hS hH hl.1 (c_X0_tileIn Γ l q 0 _ hq2 (by decide)) ⟨Nat.le_of_ble_eq_true rfl, Nat.le_of_ble_eq_true rfl⟩ ⟨Nat.le_of_ble_eq_true rfl, Nat.le_of_ble_eq_true rfl⟩ rfl (Nat.le_of_ble_eq_true rfl) dX0_merged_36 (fun v_ f_ H locs hp_ hH hS => ?_)
    obtain ⟨rfl, ef_⟩ := hp_
    rw [ef_] at hH
    clear ef_
    refine W.eq (g2 := F0 m 39 ls [.int (nI (at3 q 0)), .int v5]) rfl ?_
    refine lv_iconst (v := 1) hx hb dX0_merged_39 (by decide) ?_
    refine lv_iadd hx hb dX0_merged_40 ?_
    refine lv_topi (fun v9 ev9 => ?_)
    refine lv_iload_n hx hb dX0_merged_41 rfl (lv_at hl 2 rfl) ?_
    refine lv_ishl hx hb dX0_merged_42 ?_
    refine lv_topi (fun v10 ev10 => ?_)
    refine lv_ior hx hb dX0_merged_43 ?_
    refine lv_topi (fun v11 ev11 => ?_)
    refine lv_iload hx hb dX0_merged_44 (lv_at hl 0 rfl) ?_
    refine lv_iload_n hx hb dX0_merged_46 rfl (lv_at hl 2 rfl) ?_
    refine lv_iconst (v := 5) hx hb dX0_merged_47 (by decide) ?_
    refine lv_iadd hx hb dX0_merged_48 ?_
    refine lv_topi (fun v12 ev12 => ?_)
    have ev12 : v12 = 5 := ev12.trans (by decide)
    subst ev12
    refine lv_ishl hx hb dX0_merged_49 ?_
    refine lv_topi (fun v13 ev13 => ?_)
    refine lv_ior hx hb dX0_merged_50 ?_
    refine lv_topi (fun v14 ev14 => ?_)
    subst ev14
    subst ev13
    subst ev11
    subst ev10
    subst ev9
    subst ev8
    subst ev5
    exact hm_iret hx hb hr hlocks hS hH (pI_of (m_mg0 hq h1)) (Nat.le_of_ble_eq_true rfl) (Nat.le_of_ble_eq_true rfl) dX0_merged_51
  · by_cases h2 : q.2.1 ≠ 0 ∧ q.2.1 = q.2.2
    · refine lv_iload_n hx hb dX0_merged_0 rfl (lv_at hl 0 rfl) ?_
      refine hm_callS (rest := []) (k := 1) q3_104 q3_105 q1_24 q3_106 nm_X0_mergingPlace rfl hx hb hml hown hts hK hO hS hH hl.1 (c_X0_mergingPlace Γ l q _ hq2) ⟨Nat.le_of_ble_eq_true rfl, Nat.le_of_ble_eq_true rfl⟩ ⟨Nat.le_of_ble_eq_true rfl, Nat.le_of_ble_eq_true rfl⟩ rfl (Nat.le_of_ble_eq_true rfl) dX0_merged_1 (fun v_ f_ H locs hp_ hH hS => ?_)
      obtain ⟨rfl, ef_⟩ := hp_
      rw [ef_] at hH
      clear ef_
      refine W.eq (g2 := F0 m 4 ls [.int (mpI q)]) rfl ?_
      rw [show mpI q = 1 from by unfold mpI; rw [if_neg h1, if_pos h2]]
      refine lv_istore_n (lv' := [(1, .int 1), (0, .int (nI (ln q)))]) hx hb dX0_merged_4 rfl hl (by decide) rfl (fun ls hl => ?_)
      refine lv_iload_n hx hb dX0_merged_5 rfl (lv_at hl 0 rfl) ?_
      refine lv_iconst (v := (-1)) hx hb dX0_merged_6 (by decide) ?_
      refine lv_icmp_ne (tgt := 12) hx hb dX0_merged_7 (by decide) (fun _ => ?_) (fun c1 => absurd c1 (by decide))
      refine lv_iload_n hx hb dX0_merged_12 rfl (lv_at hl 0 rfl) ?_
      refine lv_iconst (v := 5) hx hb dX0_merged_13 (by decide) ?_
      refine lv_imul hx hb dX0_merged_14 ?_
      refine lv_topi (fun v2 ev2 => ?_)
      have ev2 : v2 = 5 := ev2.trans (by decide)
      subst ev2
      refine lv_istore_n (lv' := [(2, .int 5), (1, .int 1), (0, .int (nI (ln q)))]) hx hb dX0_merged_15 rfl hl (by decide) rfl (fun ls hl => ?_)
      refine lv_iload_n hx hb dX0_merged_16 rfl (lv_at hl 2 rfl) ?_
      refine lv_iconst (v := 1) hx hb dX0_merged_17 (by decide) ?_
      refine lv_iload_n hx hb dX0_merged_18 rfl (lv_at hl 0 rfl) ?_
      refine lv_ishl hx hb dX0_merged_19 ?_
      refine lv_topi (fun v3 ev3 => ?_)
      have ev3 : v3 = 32 := ev3.trans (by decide)
      subst ev3
      refine lv_iconst (v := 1) hx hb dX0_merged_20 (by decide) ?_
      refine lv_isub hx hb dX0_merged_21 ?_
      refine lv_topi (fun v4 ev4 => ?_)
      have ev4 : v4 = 31 := ev4.trans (by decide)
      subst ev4
      refine lv_iand hx hb dX0_merged_22 ?_
      refine lv_topi (fun v5 ev5 => ?_)
      refine lv_istore_n (lv' := [(3, .int v5), (2, .int 5), (1, .int 1), (0, .int (nI (ln q)))]) hx hb dX0_merged_23 rfl hl (by decide) rfl (fun ls hl => ?_)
      refine lv_iload_n hx hb dX0_merged_24 rfl (lv_at hl 3 rfl) ?_
      refine lv_iload_n hx hb dX0_merged_25 rfl (lv_at hl 1 rfl) ?_
      refine lv_iconst (v := 5) hx hb dX0_merged_26 (by decide) ?_
      refine lv_iadd hx hb dX0_merged_27 ?_
      refine lv_topi (fun v6 ev6 => ?_)
      have ev6 : v6 = 10 := ev6.trans (by decide)
      subst ev6
      refine lv_iconst (v := 5) hx hb dX0_merged_28 (by decide) ?_
      refine lv_iadd hx hb dX0_merged_29 ?_
      refine lv_topi (fun v7 ev7 => ?_)
      have ev7 : v7 = 15 := ev7.trans (by decide)
      subst ev7
      refine lv_ishr hx hb dX0_merged_30 ?_
      refine lv_topi (fun v8 ev8 => ?_)
      refine lv_istore (lv' := [(4, .int v8), (3, .int v5), (2, .int 5), (1, .int 1), (0, .int (nI (ln q)))]) hx hb dX0_merged_31 hl (by decide) rfl (fun ls hl => ?_)
      refine lv_iload_n hx hb dX0_merged_33 rfl (lv_at hl 1 rfl) ?_
      refine lv_iload_n hx hb dX0_merged_34 rfl (lv_at hl 4 rfl) ?_
      refine lv_iload_n hx hb dX0_merged_35 rfl (lv_at hl 3 rfl) ?_
      refine hm_callS (rest := [.int v5]) (k := 1) q3_107 q3_108 q1_24 q3_109 nm_X0_tileIn rfl hx hb hml hown hts hK hO hS hH hl.1 (c_X0_tileIn Γ l q 1 _ hq2 (by decide)) ⟨Nat.le_of_ble_eq_true rfl, Nat.le_of_ble_eq_true rfl⟩ ⟨Nat.le_of_ble_eq_true rfl, Nat.le_of_ble_eq_true rfl⟩ rfl (Nat.le_of_ble_eq_true rfl) dX0_merged_36 (fun v_ f_ H locs hp_ hH hS => ?_)
      obtain ⟨rfl, ef_⟩ := hp_
      rw [ef_] at hH
      clear ef_
      refine W.eq (g2 := F0 m 39 ls [.int (nI (at3 q 1)), .int v5]) rfl ?_
      refine lv_iconst (v := 1) hx hb dX0_merged_39 (by decide) ?_
      refine lv_iadd hx hb dX0_merged_40 ?_
      refine lv_topi (fun v9 ev9 => ?_)
      refine lv_iload_n hx hb dX0_merged_41 rfl (lv_at hl 2 rfl) ?_
      refine lv_ishl hx hb dX0_merged_42 ?_
      refine lv_topi (fun v10 ev10 => ?_)
      refine lv_ior hx hb dX0_merged_43 ?_
      refine lv_topi (fun v11 ev11 => ?_)
      refine lv_iload hx hb dX0_merged_44 (lv_at hl 0 rfl) ?_
      refine lv_iload_n hx hb dX0_merged_46 rfl (lv_at hl 2 rfl) ?_
      refine lv_iconst (v := 5) hx hb dX0_merged_47 (by decide) ?_
      refine lv_iadd hx hb dX0_merged_48 ?_
      refine lv_topi (fun v12 ev12 => ?_)
      have ev12 : v12 = 10 := ev12.trans (by decide)
      subst ev12
      refine lv_ishl hx hb dX0_merged_49 ?_
      refine lv_topi (fun v13 ev13 => ?_)
      refine lv_ior hx hb dX0_merged_50 ?_
      refine lv_topi (fun v14 ev14 => ?_)
      subst ev14
      subst ev13
      subst ev11
      subst ev10
      subst ev9
      subst ev8
      subst ev5
      exact hm_iret hx hb hr hlocks hS hH (pI_of (m_mg1 hq h1 h2)) (Nat.le_of_ble_eq_true rfl) (Nat.le_of_ble_eq_true rfl) dX0_merged_51
    · refine lv_iload_n hx hb dX0_merged_0 rfl (lv_at hl 0 rfl) ?_
      refine hm_callS (rest := []) (k := 1) q3_104 q3_105 q1_24 q3_106 nm_X0_mergingPlace rfl hx hb hml hown hts hK hO hS hH hl.1 (c_X0_mergingPlace Γ l q _ hq2) ⟨Nat.le_of_ble_eq_true rfl, Nat.le_of_ble_eq_true rfl⟩ ⟨Nat.le_of_ble_eq_true rfl, Nat.le_of_ble_eq_true rfl⟩ rfl (Nat.le_of_ble_eq_true rfl) dX0_merged_1 (fun v_ f_ H locs hp_ hH hS => ?_)
      obtain ⟨rfl, ef_⟩ := hp_
      rw [ef_] at hH
      clear ef_
      refine W.eq (g2 := F0 m 4 ls [.int (mpI q)]) rfl ?_
      rw [show mpI q = (-1) from by unfold mpI; rw [if_neg h1, if_neg h2]]
      refine lv_istore_n (lv' := [(1, .int ((-1))), (0, .int (nI (ln q)))]) hx hb dX0_merged_4 rfl hl (by decide) rfl (fun ls hl => ?_)
      refine lv_iload_n hx hb dX0_merged_5 rfl (lv_at hl 0 rfl) ?_
      refine lv_iconst (v := (-1)) hx hb dX0_merged_6 (by decide) ?_
      refine lv_icmp_ne (tgt := 12) hx hb dX0_merged_7 (by decide) (fun c1 => absurd (by decide) c1) (fun _ => ?_)
      refine lv_iload_n hx hb dX0_merged_10 rfl (lv_at hl 1 rfl) ?_
      exact hm_iret hx hb hr hlocks hS hH (pI_of (m_mg2 h1 h2)) (Nat.le_of_ble_eq_true rfl) (Nat.le_of_ble_eq_true rfl) dX0_merged_11
set_option maxHeartbeats 4000000 in
set_option maxRecDepth 100000 in
theorem c_X0_pushed (Γ : Gm) (l : Launch) (t : Nat → Nat) (to : Nat) (f : Hm) (ht : tl 31 t) (hto : to < 4) : Ct Γ l yX0_pushed cX0_pushed 10 (some .long) 4 0 0 [.long (b5 t), .int (nI to)] f (pJ (b5 (pushT t to)) f) := by
  refine Ct_of (by decide +kernel) (Nat.le_of_ble_eq_true rfl) ?_
  intro p e s m args below meth c hx hb hr hml hown hin hlocks hts hH hO hK ls hl
  have hl : lv_has ls 10 [(0, .long (b5 t)), (2, .int (nI to))] := hl
  have hS : va_S (gA Γ) s.heap s.heap [] := va_S.rf
  refine lv_lconst (v := 0) hx hb dX0_pushed_0 (by decide) ?_
  refine lv_lstore_n (lv' := [(3, .long 0), (0, .long (b5 t)), (2, .int (nI to))]) hx hb dX0_pushed_1 rfl hl (by decide) rfl (fun ls hl => ?_)
  refine lv_iconst (v := 0) hx hb dX0_pushed_2 (by decide) ?_
  refine lv_istore (lv' := [(5, .int 0), (3, .long 0), (0, .long (b5 t)), (2, .int (nI to))]) hx hb dX0_pushed_3 hl (by decide) rfl (fun ls hl => ?_)
  refine lv_iload hx hb dX0_pushed_5 (lv_at hl 0 rfl) ?_
  refine lv_iconst (v := 3) hx hb dX0_pushed_7 (by decide) ?_
  refine lv_icmp_ge (tgt := 70) hx hb dX0_pushed_8 (by decide) (fun c1 => absurd c1 (by decide)) (fun _ => ?_)
  refine lv_lload_n hx hb dX0_pushed_11 rfl (lv_at hl 2 rfl) ?_
  refine lv_iload_n hx hb dX0_pushed_12 rfl (lv_at hl 3 rfl) ?_
  refine lv_iload hx hb dX0_pushed_13 (lv_at hl 0 rfl) ?_
  refine hm_callS (rest := []) (k := 2) q3_95 q3_96 q1_24 q3_97 nm_X0_gathered rfl hx hb hml hown hts hK hO hS hH hl.1 (c_X0_gathered Γ l t to 0 _ (tl_mono ht (by decide)) hto (by decide)) ⟨Nat.le_of_ble_eq_true rfl, Nat.le_of_ble_eq_true rfl⟩ ⟨Nat.le_of_ble_eq_true rfl, Nat.le_of_ble_eq_true rfl⟩ rfl (Nat.le_of_ble_eq_true rfl) dX0_pushed_15 (fun v_ f_ H locs hp_ hH hS => ?_)
  obtain ⟨rfl, ef_⟩ := hp_
  rw [ef_] at hH
  clear ef_
  refine W.eq (g2 := F0 m 18 ls [.int (nI (ln (lineT t to 0)))]) rfl ?_
  refine hm_callS (rest := []) (k := 2) q3_101 q3_102 q1_24 q3_103 nm_X0_merged rfl hx hb hml hown hts hK hO hS hH hl.1 (c_X0_merged Γ l (lineT t to 0) _ (lineT_lt ht hto (by decide))) ⟨Nat.le_of_ble_eq_true rfl, Nat.le_of_ble_eq_true rfl⟩ ⟨Nat.le_of_ble_eq_true rfl, Nat.le_of_ble_eq_true rfl⟩ rfl (Nat.le_of_ble_eq_true rfl) dX0_pushed_18 (fun v_ f_ H locs hp_ hH hS => ?_)
  obtain ⟨rfl, ef_⟩ := hp_
  rw [ef_] at hH
  clear ef_
  refine W.eq (g2 := F0 m 21 ls [.int (nI (ln (mg (lineT t to 0))))]) rfl ?_
  refine lv_istore (lv' := [(6, .int (nI (ln (mg (lineT t to 0))))), (5, .int 0), (3, .long 0), (0, .long (b5 t)), (2, .int (nI to))]) hx hb dX0_pushed_21 hl (by decide) rfl (fun ls hl => ?_)
  refine lv_iconst (v := 0) hx hb dX0_pushed_23 (by decide) ?_
  refine lv_istore (lv' := [(7, .int 0), (6, .int (nI (ln (mg (lineT t to 0))))), (5, .int 0), (3, .long 0), (0, .long (b5 t)), (2, .int (nI to))]) hx hb dX0_pushed_24 hl (by decide) rfl (fun ls hl => ?_)
  refine lv_iload hx hb dX0_pushed_26 (lv_at hl 0 rfl) ?_
  refine lv_iconst (v := 3) hx hb dX0_pushed_28 (by decide) ?_
  refine lv_icmp_ge (tgt := 64) hx hb dX0_pushed_29 (by decide) (fun c2 => absurd c2 (by decide)) (fun _ => ?_)
  refine lv_iload hx hb dX0_pushed_32 (lv_at hl 1 rfl) ?_
  refine lv_iload hx hb dX0_pushed_34 (lv_at hl 0 rfl) ?_
  refine hm_callS (rest := []) (k := 1) q3_107 q3_108 q1_24 q3_109 nm_X0_tileIn rfl hx hb hml hown hts hK hO hS hH hl.1 (c_X0_tileIn Γ l (mg (lineT t to 0)) 0 _ ⟨mg_lt (lineT_lt ht hto (i := 0) (by decide)) 0, mg_lt (lineT_lt ht hto (i := 0) (by decide)) 1, mg_lt (lineT_lt ht hto (i := 0) (by decide)) 2⟩ (by decide)) ⟨Nat.le_of_ble_eq_true rfl, Nat.le_of_ble_eq_true rfl⟩ ⟨Nat.le_of_ble_eq_true rfl, Nat.le_of_ble_eq_true rfl⟩ rfl (Nat.le_of_ble_eq_true rfl) dX0_pushed_36 (fun v_ f_ H locs hp_ hH hS => ?_)
  obtain ⟨rfl, ef_⟩ := hp_
  rw [ef_] at hH
  clear ef_
  refine W.eq (g2 := F0 m 39 ls [.int (nI (at3 (mg (lineT t to 0)) 0))]) rfl ?_
  refine lv_i2l hx hb dX0_pushed_39 rfl ?_
  refine lv_topl (fun v3 ev3 => ?_)
  replace ev3 : v3 = lN (at3 (mg (lineT t to 0)) 0) := ev3.trans (nI_l (by have := mg_lt (lineT_lt ht hto (i := 0) (by decide)) 0; omega))
  subst ev3
  refine lv_lstore (lv' := [(8, .long (lN (at3 (mg (lineT t to 0)) 0))), (7, .int 0), (6, .int (nI (ln (mg (lineT t to 0))))), (5, .int 0), (3, .long 0), (0, .long (b5 t)), (2, .int (nI to))]) hx hb dX0_pushed_40 hl (by decide) rfl (fun ls hl => ?_)
  refine lv_lload_n hx hb dX0_pushed_42 rfl (lv_at hl 4 rfl) ?_
  refine lv_lload hx hb dX0_pushed_43 (lv_at hl 0 rfl) ?_
  refine lv_iload_n hx hb dX0_pushed_45 rfl (lv_at hl 6 rfl) ?_
  refine lv_iload hx hb dX0_pushed_46 (lv_at hl 3 rfl) ?_
  refine lv_iload hx hb dX0_pushed_48 (lv_at hl 1 rfl) ?_
  refine hm_callS (rest := [.long (lN (at3 (mg (lineT t to 0)) 0)), .long 0]) (k := 1) q3_98 q3_99 q1_24 q3_100 nm_X0_cellOf rfl hx hb hml hown hts hK hO hS hH hl.1 (c_X0_cellOf Γ l to 0 0 _ hto (by decide) (by decide)) ⟨Nat.le_of_ble_eq_true rfl, Nat.le_of_ble_eq_true rfl⟩ ⟨Nat.le_of_ble_eq_true rfl, Nat.le_of_ble_eq_true rfl⟩ rfl (Nat.le_of_ble_eq_true rfl) dX0_pushed_50 (fun v_ f_ H locs hp_ hH hS => ?_)
  obtain ⟨rfl, ef_⟩ := hp_
  rw [ef_] at hH
  clear ef_
  refine W.eq (g2 := F0 m 53 ls [.int (nI (cO to 0 0)), .long (lN (at3 (mg (lineT t to 0)) 0)), .long 0]) rfl ?_
  refine lv_iconst (v := 5) hx hb dX0_pushed_53 (by decide) ?_
  refine lv_imul hx hb dX0_pushed_54 ?_
  refine lv_topi (fun v4 ev4 => ?_)
  refine lv_lshl hx hb dX0_pushed_55 rfl ?_
  refine lv_topl (fun v5 ev5 => ?_)
  refine lv_lor hx hb dX0_pushed_56 ?_
  refine lv_topl (fun v6 ev6 => ?_)
  replace ev6 : v6 = b5 (prt t to 1) := ev6.trans (by subst_vars; rw [b5_0, ← prt_0 t to]; rw [b5_or (prt_lt ht hto 0) (cO_lt to hto 0 (by decide) 0 (by decide)) (prt_z t hto (i := 0) (p := 0) (by decide) (by decide)) (by have := mg_lt (lineT_lt ht hto (i := 0) (by decide)) 0; omega), prt_s t hto (i := 0) (p := 0) (by decide) (by decide)])
  subst ev6
  refine lv_lstore_n (lv' := [(3, .long (b5 (prt t to 1))), (8, .long (lN (at3 (mg (lineT t to 0)) 0))), (7, .int 0), (6, .int (nI (ln (mg (lineT t to 0))))), (5, .int 0), (0, .long (b5 t)), (2, .int (nI to))]) hx hb dX0_pushed_57 rfl hl (by decide) rfl (fun ls hl => ?_)
  refine lv_iinc (v := 1) (lv' := [(7, .int 1), (3, .long (b5 (prt t to 1))), (8, .long (lN (at3 (mg (lineT t to 0)) 0))), (6, .int (nI (ln (mg (lineT t to 0))))), (5, .int 0), (0, .long (b5 t)), (2, .int (nI to))]) hx hb dX0_pushed_58 hl (k := 2) rfl (by decide) (by decide) rfl (fun ls hl => ?_)
  refine lv_goto (tgt := 26) hx hb dX0_pushed_61 (by decide) ?_
  refine lv_iload hx hb dX0_pushed_26 (lv_at hl 0 rfl) ?_
  refine lv_iconst (v := 3) hx hb dX0_pushed_28 (by decide) ?_
  refine lv_icmp_ge (tgt := 64) hx hb dX0_pushed_29 (by decide) (fun c7 => absurd c7 (by decide)) (fun _ => ?_)
  refine lv_iload hx hb dX0_pushed_32 (lv_at hl 3 rfl) ?_
  refine lv_iload hx hb dX0_pushed_34 (lv_at hl 0 rfl) ?_
  refine hm_callS (rest := []) (k := 1) q3_107 q3_108 q1_24 q3_109 nm_X0_tileIn rfl hx hb hml hown hts hK hO hS hH hl.1 (c_X0_tileIn Γ l (mg (lineT t to 0)) 1 _ ⟨mg_lt (lineT_lt ht hto (i := 0) (by decide)) 0, mg_lt (lineT_lt ht hto (i := 0) (by decide)) 1, mg_lt (lineT_lt ht hto (i := 0) (by decide)) 2⟩ (by decide)) ⟨Nat.le_of_ble_eq_true rfl, Nat.le_of_ble_eq_true rfl⟩ ⟨Nat.le_of_ble_eq_true rfl, Nat.le_of_ble_eq_true rfl⟩ rfl (Nat.le_of_ble_eq_true rfl) dX0_pushed_36 (fun v_ f_ H locs hp_ hH hS => ?_)
  obtain ⟨rfl, ef_⟩ := hp_
  rw [ef_] at hH
  clear ef_
  refine W.eq (g2 := F0 m 39 ls [.int (nI (at3 (mg (lineT t to 0)) 1))]) rfl ?_
  refine lv_i2l hx hb dX0_pushed_39 rfl ?_
  refine lv_topl (fun v8 ev8 => ?_)
  replace ev8 : v8 = lN (at3 (mg (lineT t to 0)) 1) := ev8.trans (nI_l (by have := mg_lt (lineT_lt ht hto (i := 0) (by decide)) 1; omega))
  subst ev8
  refine lv_lstore (lv' := [(8, .long (lN (at3 (mg (lineT t to 0)) 1))), (7, .int 1), (3, .long (b5 (prt t to 1))), (6, .int (nI (ln (mg (lineT t to 0))))), (5, .int 0), (0, .long (b5 t)), (2, .int (nI to))]) hx hb dX0_pushed_40 hl (by decide) rfl (fun ls hl => ?_)
  refine lv_lload_n hx hb dX0_pushed_42 rfl (lv_at hl 2 rfl) ?_
  refine lv_lload hx hb dX0_pushed_43 (lv_at hl 0 rfl) ?_
  refine lv_iload_n hx hb dX0_pushed_45 rfl (lv_at hl 6 rfl) ?_
  refine lv_iload hx hb dX0_pushed_46 (lv_at hl 4 rfl) ?_
  refine lv_iload hx hb dX0_pushed_48 (lv_at hl 1 rfl) ?_
  refine hm_callS (rest := [.long (lN (at3 (mg (lineT t to 0)) 1)), .long (b5 (prt t to 1))]) (k := 1) q3_98 q3_99 q1_24 q3_100 nm_X0_cellOf rfl hx hb hml hown hts hK hO hS hH hl.1 (c_X0_cellOf Γ l to 0 1 _ hto (by decide) (by decide)) ⟨Nat.le_of_ble_eq_true rfl, Nat.le_of_ble_eq_true rfl⟩ ⟨Nat.le_of_ble_eq_true rfl, Nat.le_of_ble_eq_true rfl⟩ rfl (Nat.le_of_ble_eq_true rfl) dX0_pushed_50 (fun v_ f_ H locs hp_ hH hS => ?_)
  obtain ⟨rfl, ef_⟩ := hp_
  rw [ef_] at hH
  clear ef_
  refine W.eq (g2 := F0 m 53 ls [.int (nI (cO to 0 1)), .long (lN (at3 (mg (lineT t to 0)) 1)), .long (b5 (prt t to 1))]) rfl ?_
  refine lv_iconst (v := 5) hx hb dX0_pushed_53 (by decide) ?_
  refine lv_imul hx hb dX0_pushed_54 ?_
  refine lv_topi (fun v9 ev9 => ?_)
  refine lv_lshl hx hb dX0_pushed_55 rfl ?_
  refine lv_topl (fun v10 ev10 => ?_)
  refine lv_lor hx hb dX0_pushed_56 ?_
  refine lv_topl (fun v11 ev11 => ?_)
  replace ev11 : v11 = b5 (prt t to 2) := ev11.trans (by subst_vars; rw [b5_or (prt_lt ht hto 1) (cO_lt to hto 0 (by decide) 1 (by decide)) (prt_z t hto (i := 0) (p := 1) (by decide) (by decide)) (by have := mg_lt (lineT_lt ht hto (i := 0) (by decide)) 1; omega), prt_s t hto (i := 0) (p := 1) (by decide) (by decide)])
  subst ev11
  refine lv_lstore_n (lv' := [(3, .long (b5 (prt t to 2))), (8, .long (lN (at3 (mg (lineT t to 0)) 1))), (7, .int 1), (6, .int (nI (ln (mg (lineT t to 0))))), (5, .int 0), (0, .long (b5 t)), (2, .int (nI to))]) hx hb dX0_pushed_57 rfl hl (by decide) rfl (fun ls hl => ?_)
  refine lv_iinc (v := 2) (lv' := [(7, .int 2), (3, .long (b5 (prt t to 2))), (8, .long (lN (at3 (mg (lineT t to 0)) 1))), (6, .int (nI (ln (mg (lineT t to 0))))), (5, .int 0), (0, .long (b5 t)), (2, .int (nI to))]) hx hb dX0_pushed_58 hl (k := 2) rfl (by decide) (by decide) rfl (fun ls hl => ?_)
  refine lv_goto (tgt := 26) hx hb dX0_pushed_61 (by decide) ?_
  refine lv_iload hx hb dX0_pushed_26 (lv_at hl 0 rfl) ?_
  refine lv_iconst (v := 3) hx hb dX0_pushed_28 (by decide) ?_
  refine lv_icmp_ge (tgt := 64) hx hb dX0_pushed_29 (by decide) (fun c12 => absurd c12 (by decide)) (fun _ => ?_)
  refine lv_iload hx hb dX0_pushed_32 (lv_at hl 3 rfl) ?_
  refine lv_iload hx hb dX0_pushed_34 (lv_at hl 0 rfl) ?_
  refine hm_callS (rest := []) (k := 1) q3_107 q3_108 q1_24 q3_109 nm_X0_tileIn rfl hx hb hml hown hts hK hO hS hH hl.1 (c_X0_tileIn Γ l (mg (lineT t to 0)) 2 _ ⟨mg_lt (lineT_lt ht hto (i := 0) (by decide)) 0, mg_lt (lineT_lt ht hto (i := 0) (by decide)) 1, mg_lt (lineT_lt ht hto (i := 0) (by decide)) 2⟩ (by decide)) ⟨Nat.le_of_ble_eq_true rfl, Nat.le_of_ble_eq_true rfl⟩ ⟨Nat.le_of_ble_eq_true rfl, Nat.le_of_ble_eq_true rfl⟩ rfl (Nat.le_of_ble_eq_true rfl) dX0_pushed_36 (fun v_ f_ H locs hp_ hH hS => ?_)
  obtain ⟨rfl, ef_⟩ := hp_
  rw [ef_] at hH
  clear ef_
  refine W.eq (g2 := F0 m 39 ls [.int (nI (at3 (mg (lineT t to 0)) 2))]) rfl ?_
  refine lv_i2l hx hb dX0_pushed_39 rfl ?_
  refine lv_topl (fun v13 ev13 => ?_)
  replace ev13 : v13 = lN (at3 (mg (lineT t to 0)) 2) := ev13.trans (nI_l (by have := mg_lt (lineT_lt ht hto (i := 0) (by decide)) 2; omega))
  subst ev13
  refine lv_lstore (lv' := [(8, .long (lN (at3 (mg (lineT t to 0)) 2))), (7, .int 2), (3, .long (b5 (prt t to 2))), (6, .int (nI (ln (mg (lineT t to 0))))), (5, .int 0), (0, .long (b5 t)), (2, .int (nI to))]) hx hb dX0_pushed_40 hl (by decide) rfl (fun ls hl => ?_)
  refine lv_lload_n hx hb dX0_pushed_42 rfl (lv_at hl 2 rfl) ?_
  refine lv_lload hx hb dX0_pushed_43 (lv_at hl 0 rfl) ?_
  refine lv_iload_n hx hb dX0_pushed_45 rfl (lv_at hl 6 rfl) ?_
  refine lv_iload hx hb dX0_pushed_46 (lv_at hl 4 rfl) ?_
  refine lv_iload hx hb dX0_pushed_48 (lv_at hl 1 rfl) ?_
  refine hm_callS (rest := [.long (lN (at3 (mg (lineT t to 0)) 2)), .long (b5 (prt t to 2))]) (k := 1) q3_98 q3_99 q1_24 q3_100 nm_X0_cellOf rfl hx hb hml hown hts hK hO hS hH hl.1 (c_X0_cellOf Γ l to 0 2 _ hto (by decide) (by decide)) ⟨Nat.le_of_ble_eq_true rfl, Nat.le_of_ble_eq_true rfl⟩ ⟨Nat.le_of_ble_eq_true rfl, Nat.le_of_ble_eq_true rfl⟩ rfl (Nat.le_of_ble_eq_true rfl) dX0_pushed_50 (fun v_ f_ H locs hp_ hH hS => ?_)
  obtain ⟨rfl, ef_⟩ := hp_
  rw [ef_] at hH
  clear ef_
  refine W.eq (g2 := F0 m 53 ls [.int (nI (cO to 0 2)), .long (lN (at3 (mg (lineT t to 0)) 2)), .long (b5 (prt t to 2))]) rfl ?_
  refine lv_iconst (v := 5) hx hb dX0_pushed_53 (by decide) ?_
  refine lv_imul hx hb dX0_pushed_54 ?_
  refine lv_topi (fun v14 ev14 => ?_)
  refine lv_lshl hx hb dX0_pushed_55 rfl ?_
  refine lv_topl (fun v15 ev15 => ?_)
  refine lv_lor hx hb dX0_pushed_56 ?_
  refine lv_topl (fun v16 ev16 => ?_)
  replace ev16 : v16 = b5 (prt t to 3) := ev16.trans (by subst_vars; rw [b5_or (prt_lt ht hto 2) (cO_lt to hto 0 (by decide) 2 (by decide)) (prt_z t hto (i := 0) (p := 2) (by decide) (by decide)) (by have := mg_lt (lineT_lt ht hto (i := 0) (by decide)) 2; omega), prt_s t hto (i := 0) (p := 2) (by decide) (by decide)])
  subst ev16
  refine lv_lstore_n (lv' := [(3, .long (b5 (prt t to 3))), (8, .long (lN (at3 (mg (lineT t to 0)) 2))), (7, .int 2), (6, .int (nI (ln (mg (lineT t to 0))))), (5, .int 0), (0, .long (b5 t)), (2, .int (nI to))]) hx hb dX0_pushed_57 rfl hl (by decide) rfl (fun ls hl => ?_)
  refine lv_iinc (v := 3) (lv' := [(7, .int 3), (3, .long (b5 (prt t to 3))), (8, .long (lN (at3 (mg (lineT t to 0)) 2))), (6, .int (nI (ln (mg (lineT t to 0))))), (5, .int 0), (0, .long (b5 t)), (2, .int (nI to))]) hx hb dX0_pushed_58 hl (k := 2) rfl (by decide) (by decide) rfl (fun ls hl => ?_)
  refine lv_goto (tgt := 26) hx hb dX0_pushed_61 (by decide) ?_
  refine lv_iload hx hb dX0_pushed_26 (lv_at hl 0 rfl) ?_
  refine lv_iconst (v := 3) hx hb dX0_pushed_28 (by decide) ?_
  refine lv_icmp_ge (tgt := 64) hx hb dX0_pushed_29 (by decide) (fun _ => ?_) (fun c17 => absurd (by decide) c17)
  refine lv_iinc (v := 1) (lv' := [(5, .int 1), (7, .int 3), (3, .long (b5 (prt t to 3))), (8, .long (lN (at3 (mg (lineT t to 0)) 2))), (6, .int (nI (ln (mg (lineT t to 0))))), (0, .long (b5 t)), (2, .int (nI to))]) hx hb dX0_pushed_64 hl (k := 4) rfl (by decide) (by decide) rfl (fun ls hl => ?_)
  refine lv_goto (tgt := 5) hx hb dX0_pushed_67 (by decide) ?_
  refine lv_iload hx hb dX0_pushed_5 (lv_at hl 0 rfl) ?_
  refine lv_iconst (v := 3) hx hb dX0_pushed_7 (by decide) ?_
  refine lv_icmp_ge (tgt := 70) hx hb dX0_pushed_8 (by decide) (fun c18 => absurd c18 (by decide)) (fun _ => ?_)
  refine lv_lload_n hx hb dX0_pushed_11 rfl (lv_at hl 5 rfl) ?_
  refine lv_iload_n hx hb dX0_pushed_12 rfl (lv_at hl 6 rfl) ?_
  refine lv_iload hx hb dX0_pushed_13 (lv_at hl 0 rfl) ?_
  refine hm_callS (rest := []) (k := 2) q3_95 q3_96 q1_24 q3_97 nm_X0_gathered rfl hx hb hml hown hts hK hO hS hH hl.1 (c_X0_gathered Γ l t to 1 _ (tl_mono ht (by decide)) hto (by decide)) ⟨Nat.le_of_ble_eq_true rfl, Nat.le_of_ble_eq_true rfl⟩ ⟨Nat.le_of_ble_eq_true rfl, Nat.le_of_ble_eq_true rfl⟩ rfl (Nat.le_of_ble_eq_true rfl) dX0_pushed_15 (fun v_ f_ H locs hp_ hH hS => ?_)
  obtain ⟨rfl, ef_⟩ := hp_
  rw [ef_] at hH
  clear ef_
  refine W.eq (g2 := F0 m 18 ls [.int (nI (ln (lineT t to 1)))]) rfl ?_
  refine hm_callS (rest := []) (k := 2) q3_101 q3_102 q1_24 q3_103 nm_X0_merged rfl hx hb hml hown hts hK hO hS hH hl.1 (c_X0_merged Γ l (lineT t to 1) _ (lineT_lt ht hto (by decide))) ⟨Nat.le_of_ble_eq_true rfl, Nat.le_of_ble_eq_true rfl⟩ ⟨Nat.le_of_ble_eq_true rfl, Nat.le_of_ble_eq_true rfl⟩ rfl (Nat.le_of_ble_eq_true rfl) dX0_pushed_18 (fun v_ f_ H locs hp_ hH hS => ?_)
  obtain ⟨rfl, ef_⟩ := hp_
  rw [ef_] at hH
  clear ef_
  refine W.eq (g2 := F0 m 21 ls [.int (nI (ln (mg (lineT t to 1))))]) rfl ?_
  refine lv_istore (lv' := [(6, .int (nI (ln (mg (lineT t to 1))))), (5, .int 1), (7, .int 3), (3, .long (b5 (prt t to 3))), (8, .long (lN (at3 (mg (lineT t to 0)) 2))), (0, .long (b5 t)), (2, .int (nI to))]) hx hb dX0_pushed_21 hl (by decide) rfl (fun ls hl => ?_)
  refine lv_iconst (v := 0) hx hb dX0_pushed_23 (by decide) ?_
  refine lv_istore (lv' := [(7, .int 0), (6, .int (nI (ln (mg (lineT t to 1))))), (5, .int 1), (3, .long (b5 (prt t to 3))), (8, .long (lN (at3 (mg (lineT t to 0)) 2))), (0, .long (b5 t)), (2, .int (nI to))]) hx hb dX0_pushed_24 hl (by decide) rfl (fun ls hl => ?_)
  refine lv_iload hx hb dX0_pushed_26 (lv_at hl 0 rfl) ?_
  refine lv_iconst (v := 3) hx hb dX0_pushed_28 (by decide) ?_
  refine lv_icmp_ge (tgt := 64) hx hb dX0_pushed_29 (by decide) (fun c19 => absurd c19 (by decide)) (fun _ => ?_)
  refine lv_iload hx hb dX0_pushed_32 (lv_at hl 1 rfl) ?_
  refine lv_iload hx hb dX0_pushed_34 (lv_at hl 0 rfl) ?_
  refine hm_callS (rest := []) (k := 1) q3_107 q3_108 q1_24 q3_109 nm_X0_tileIn rfl hx hb hml hown hts hK hO hS hH hl.1 (c_X0_tileIn Γ l (mg (lineT t to 1)) 0 _ ⟨mg_lt (lineT_lt ht hto (i := 1) (by decide)) 0, mg_lt (lineT_lt ht hto (i := 1) (by decide)) 1, mg_lt (lineT_lt ht hto (i := 1) (by decide)) 2⟩ (by decide)) ⟨Nat.le_of_ble_eq_true rfl, Nat.le_of_ble_eq_true rfl⟩ ⟨Nat.le_of_ble_eq_true rfl, Nat.le_of_ble_eq_true rfl⟩ rfl (Nat.le_of_ble_eq_true rfl) dX0_pushed_36 (fun v_ f_ H locs hp_ hH hS => ?_)
  obtain ⟨rfl, ef_⟩ := hp_
  rw [ef_] at hH
  clear ef_
  refine W.eq (g2 := F0 m 39 ls [.int (nI (at3 (mg (lineT t to 1)) 0))]) rfl ?_
  refine lv_i2l hx hb dX0_pushed_39 rfl ?_
  refine lv_topl (fun v20 ev20 => ?_)
  replace ev20 : v20 = lN (at3 (mg (lineT t to 1)) 0) := ev20.trans (nI_l (by have := mg_lt (lineT_lt ht hto (i := 1) (by decide)) 0; omega))
  subst ev20
  refine lv_lstore (lv' := [(8, .long (lN (at3 (mg (lineT t to 1)) 0))), (7, .int 0), (6, .int (nI (ln (mg (lineT t to 1))))), (5, .int 1), (3, .long (b5 (prt t to 3))), (0, .long (b5 t)), (2, .int (nI to))]) hx hb dX0_pushed_40 hl (by decide) rfl (fun ls hl => ?_)
  refine lv_lload_n hx hb dX0_pushed_42 rfl (lv_at hl 4 rfl) ?_
  refine lv_lload hx hb dX0_pushed_43 (lv_at hl 0 rfl) ?_
  refine lv_iload_n hx hb dX0_pushed_45 rfl (lv_at hl 6 rfl) ?_
  refine lv_iload hx hb dX0_pushed_46 (lv_at hl 3 rfl) ?_
  refine lv_iload hx hb dX0_pushed_48 (lv_at hl 1 rfl) ?_
  refine hm_callS (rest := [.long (lN (at3 (mg (lineT t to 1)) 0)), .long (b5 (prt t to 3))]) (k := 1) q3_98 q3_99 q1_24 q3_100 nm_X0_cellOf rfl hx hb hml hown hts hK hO hS hH hl.1 (c_X0_cellOf Γ l to 1 0 _ hto (by decide) (by decide)) ⟨Nat.le_of_ble_eq_true rfl, Nat.le_of_ble_eq_true rfl⟩ ⟨Nat.le_of_ble_eq_true rfl, Nat.le_of_ble_eq_true rfl⟩ rfl (Nat.le_of_ble_eq_true rfl) dX0_pushed_50 (fun v_ f_ H locs hp_ hH hS => ?_)
  obtain ⟨rfl, ef_⟩ := hp_
  rw [ef_] at hH
  clear ef_
  refine W.eq (g2 := F0 m 53 ls [.int (nI (cO to 1 0)), .long (lN (at3 (mg (lineT t to 1)) 0)), .long (b5 (prt t to 3))]) rfl ?_
  refine lv_iconst (v := 5) hx hb dX0_pushed_53 (by decide) ?_
  refine lv_imul hx hb dX0_pushed_54 ?_
  refine lv_topi (fun v21 ev21 => ?_)
  refine lv_lshl hx hb dX0_pushed_55 rfl ?_
  refine lv_topl (fun v22 ev22 => ?_)
  refine lv_lor hx hb dX0_pushed_56 ?_
  refine lv_topl (fun v23 ev23 => ?_)
  replace ev23 : v23 = b5 (prt t to 4) := ev23.trans (by subst_vars; rw [b5_or (prt_lt ht hto 3) (cO_lt to hto 1 (by decide) 0 (by decide)) (prt_z t hto (i := 1) (p := 0) (by decide) (by decide)) (by have := mg_lt (lineT_lt ht hto (i := 1) (by decide)) 0; omega), prt_s t hto (i := 1) (p := 0) (by decide) (by decide)])
  subst ev23
  refine lv_lstore_n (lv' := [(3, .long (b5 (prt t to 4))), (8, .long (lN (at3 (mg (lineT t to 1)) 0))), (7, .int 0), (6, .int (nI (ln (mg (lineT t to 1))))), (5, .int 1), (0, .long (b5 t)), (2, .int (nI to))]) hx hb dX0_pushed_57 rfl hl (by decide) rfl (fun ls hl => ?_)
  refine lv_iinc (v := 1) (lv' := [(7, .int 1), (3, .long (b5 (prt t to 4))), (8, .long (lN (at3 (mg (lineT t to 1)) 0))), (6, .int (nI (ln (mg (lineT t to 1))))), (5, .int 1), (0, .long (b5 t)), (2, .int (nI to))]) hx hb dX0_pushed_58 hl (k := 2) rfl (by decide) (by decide) rfl (fun ls hl => ?_)
  refine lv_goto (tgt := 26) hx hb dX0_pushed_61 (by decide) ?_
  refine lv_iload hx hb dX0_pushed_26 (lv_at hl 0 rfl) ?_
  refine lv_iconst (v := 3) hx hb dX0_pushed_28 (by decide) ?_
  refine lv_icmp_ge (tgt := 64) hx hb dX0_pushed_29 (by decide) (fun c24 => absurd c24 (by decide)) (fun _ => ?_)
  refine lv_iload hx hb dX0_pushed_32 (lv_at hl 3 rfl) ?_
  refine lv_iload hx hb dX0_pushed_34 (lv_at hl 0 rfl) ?_
  refine hm_callS (rest := []) (k := 1) q3_107 q3_108 q1_24 q3_109 nm_X0_tileIn rfl hx hb hml hown hts hK hO hS hH hl.1 (c_X0_tileIn Γ l (mg (lineT t to 1)) 1 _ ⟨mg_lt (lineT_lt ht hto (i := 1) (by decide)) 0, mg_lt (lineT_lt ht hto (i := 1) (by decide)) 1, mg_lt (lineT_lt ht hto (i := 1) (by decide)) 2⟩ (by decide)) ⟨Nat.le_of_ble_eq_true rfl, Nat.le_of_ble_eq_true rfl⟩ ⟨Nat.le_of_ble_eq_true rfl, Nat.le_of_ble_eq_true rfl⟩ rfl (Nat.le_of_ble_eq_true rfl) dX0_pushed_36 (fun v_ f_ H locs hp_ hH hS => ?_)
  obtain ⟨rfl, ef_⟩ := hp_
  rw [ef_] at hH
  clear ef_
  refine W.eq (g2 := F0 m 39 ls [.int (nI (at3 (mg (lineT t to 1)) 1))]) rfl ?_
  refine lv_i2l hx hb dX0_pushed_39 rfl ?_
  refine lv_topl (fun v25 ev25 => ?_)
  replace ev25 : v25 = lN (at3 (mg (lineT t to 1)) 1) := ev25.trans (nI_l (by have := mg_lt (lineT_lt ht hto (i := 1) (by decide)) 1; omega))
  subst ev25
  refine lv_lstore (lv' := [(8, .long (lN (at3 (mg (lineT t to 1)) 1))), (7, .int 1), (3, .long (b5 (prt t to 4))), (6, .int (nI (ln (mg (lineT t to 1))))), (5, .int 1), (0, .long (b5 t)), (2, .int (nI to))]) hx hb dX0_pushed_40 hl (by decide) rfl (fun ls hl => ?_)
  refine lv_lload_n hx hb dX0_pushed_42 rfl (lv_at hl 2 rfl) ?_
  refine lv_lload hx hb dX0_pushed_43 (lv_at hl 0 rfl) ?_
  refine lv_iload_n hx hb dX0_pushed_45 rfl (lv_at hl 6 rfl) ?_
  refine lv_iload hx hb dX0_pushed_46 (lv_at hl 4 rfl) ?_
  refine lv_iload hx hb dX0_pushed_48 (lv_at hl 1 rfl) ?_
  refine hm_callS (rest := [.long (lN (at3 (mg (lineT t to 1)) 1)), .long (b5 (prt t to 4))]) (k := 1) q3_98 q3_99 q1_24 q3_100 nm_X0_cellOf rfl hx hb hml hown hts hK hO hS hH hl.1 (c_X0_cellOf Γ l to 1 1 _ hto (by decide) (by decide)) ⟨Nat.le_of_ble_eq_true rfl, Nat.le_of_ble_eq_true rfl⟩ ⟨Nat.le_of_ble_eq_true rfl, Nat.le_of_ble_eq_true rfl⟩ rfl (Nat.le_of_ble_eq_true rfl) dX0_pushed_50 (fun v_ f_ H locs hp_ hH hS => ?_)
  obtain ⟨rfl, ef_⟩ := hp_
  rw [ef_] at hH
  clear ef_
  refine W.eq (g2 := F0 m 53 ls [.int (nI (cO to 1 1)), .long (lN (at3 (mg (lineT t to 1)) 1)), .long (b5 (prt t to 4))]) rfl ?_
  refine lv_iconst (v := 5) hx hb dX0_pushed_53 (by decide) ?_
  refine lv_imul hx hb dX0_pushed_54 ?_
  refine lv_topi (fun v26 ev26 => ?_)
  refine lv_lshl hx hb dX0_pushed_55 rfl ?_
  refine lv_topl (fun v27 ev27 => ?_)
  refine lv_lor hx hb dX0_pushed_56 ?_
  refine lv_topl (fun v28 ev28 => ?_)
  replace ev28 : v28 = b5 (prt t to 5) := ev28.trans (by subst_vars; rw [b5_or (prt_lt ht hto 4) (cO_lt to hto 1 (by decide) 1 (by decide)) (prt_z t hto (i := 1) (p := 1) (by decide) (by decide)) (by have := mg_lt (lineT_lt ht hto (i := 1) (by decide)) 1; omega), prt_s t hto (i := 1) (p := 1) (by decide) (by decide)])
  subst ev28
  refine lv_lstore_n (lv' := [(3, .long (b5 (prt t to 5))), (8, .long (lN (at3 (mg (lineT t to 1)) 1))), (7, .int 1), (6, .int (nI (ln (mg (lineT t to 1))))), (5, .int 1), (0, .long (b5 t)), (2, .int (nI to))]) hx hb dX0_pushed_57 rfl hl (by decide) rfl (fun ls hl => ?_)
  refine lv_iinc (v := 2) (lv' := [(7, .int 2), (3, .long (b5 (prt t to 5))), (8, .long (lN (at3 (mg (lineT t to 1)) 1))), (6, .int (nI (ln (mg (lineT t to 1))))), (5, .int 1), (0, .long (b5 t)), (2, .int (nI to))]) hx hb dX0_pushed_58 hl (k := 2) rfl (by decide) (by decide) rfl (fun ls hl => ?_)
  refine lv_goto (tgt := 26) hx hb dX0_pushed_61 (by decide) ?_
  refine lv_iload hx hb dX0_pushed_26 (lv_at hl 0 rfl) ?_
  refine lv_iconst (v := 3) hx hb dX0_pushed_28 (by decide) ?_
  refine lv_icmp_ge (tgt := 64) hx hb dX0_pushed_29 (by decide) (fun c29 => absurd c29 (by decide)) (fun _ => ?_)
  refine lv_iload hx hb dX0_pushed_32 (lv_at hl 3 rfl) ?_
  refine lv_iload hx hb dX0_pushed_34 (lv_at hl 0 rfl) ?_
  refine hm_callS (rest := []) (k := 1) q3_107 q3_108 q1_24 q3_109 nm_X0_tileIn rfl hx hb hml hown hts hK hO hS hH hl.1 (c_X0_tileIn Γ l (mg (lineT t to 1)) 2 _ ⟨mg_lt (lineT_lt ht hto (i := 1) (by decide)) 0, mg_lt (lineT_lt ht hto (i := 1) (by decide)) 1, mg_lt (lineT_lt ht hto (i := 1) (by decide)) 2⟩ (by decide)) ⟨Nat.le_of_ble_eq_true rfl, Nat.le_of_ble_eq_true rfl⟩ ⟨Nat.le_of_ble_eq_true rfl, Nat.le_of_ble_eq_true rfl⟩ rfl (Nat.le_of_ble_eq_true rfl) dX0_pushed_36 (fun v_ f_ H locs hp_ hH hS => ?_)
  obtain ⟨rfl, ef_⟩ := hp_
  rw [ef_] at hH
  clear ef_
  refine W.eq (g2 := F0 m 39 ls [.int (nI (at3 (mg (lineT t to 1)) 2))]) rfl ?_
  refine lv_i2l hx hb dX0_pushed_39 rfl ?_
  refine lv_topl (fun v30 ev30 => ?_)
  replace ev30 : v30 = lN (at3 (mg (lineT t to 1)) 2) := ev30.trans (nI_l (by have := mg_lt (lineT_lt ht hto (i := 1) (by decide)) 2; omega))
  subst ev30
  refine lv_lstore (lv' := [(8, .long (lN (at3 (mg (lineT t to 1)) 2))), (7, .int 2), (3, .long (b5 (prt t to 5))), (6, .int (nI (ln (mg (lineT t to 1))))), (5, .int 1), (0, .long (b5 t)), (2, .int (nI to))]) hx hb dX0_pushed_40 hl (by decide) rfl (fun ls hl => ?_)
  refine lv_lload_n hx hb dX0_pushed_42 rfl (lv_at hl 2 rfl) ?_
  refine lv_lload hx hb dX0_pushed_43 (lv_at hl 0 rfl) ?_
  refine lv_iload_n hx hb dX0_pushed_45 rfl (lv_at hl 6 rfl) ?_
  refine lv_iload hx hb dX0_pushed_46 (lv_at hl 4 rfl) ?_
  refine lv_iload hx hb dX0_pushed_48 (lv_at hl 1 rfl) ?_
  refine hm_callS (rest := [.long (lN (at3 (mg (lineT t to 1)) 2)), .long (b5 (prt t to 5))]) (k := 1) q3_98 q3_99 q1_24 q3_100 nm_X0_cellOf rfl hx hb hml hown hts hK hO hS hH hl.1 (c_X0_cellOf Γ l to 1 2 _ hto (by decide) (by decide)) ⟨Nat.le_of_ble_eq_true rfl, Nat.le_of_ble_eq_true rfl⟩ ⟨Nat.le_of_ble_eq_true rfl, Nat.le_of_ble_eq_true rfl⟩ rfl (Nat.le_of_ble_eq_true rfl) dX0_pushed_50 (fun v_ f_ H locs hp_ hH hS => ?_)
  obtain ⟨rfl, ef_⟩ := hp_
  rw [ef_] at hH
  clear ef_
  refine W.eq (g2 := F0 m 53 ls [.int (nI (cO to 1 2)), .long (lN (at3 (mg (lineT t to 1)) 2)), .long (b5 (prt t to 5))]) rfl ?_
  refine lv_iconst (v := 5) hx hb dX0_pushed_53 (by decide) ?_
  refine lv_imul hx hb dX0_pushed_54 ?_
  refine lv_topi (fun v31 ev31 => ?_)
  refine lv_lshl hx hb dX0_pushed_55 rfl ?_
  refine lv_topl (fun v32 ev32 => ?_)
  refine lv_lor hx hb dX0_pushed_56 ?_
  refine lv_topl (fun v33 ev33 => ?_)
  replace ev33 : v33 = b5 (prt t to 6) := ev33.trans (by subst_vars; rw [b5_or (prt_lt ht hto 5) (cO_lt to hto 1 (by decide) 2 (by decide)) (prt_z t hto (i := 1) (p := 2) (by decide) (by decide)) (by have := mg_lt (lineT_lt ht hto (i := 1) (by decide)) 2; omega), prt_s t hto (i := 1) (p := 2) (by decide) (by decide)])
  subst ev33
  refine lv_lstore_n (lv' := [(3, .long (b5 (prt t to 6))), (8, .long (lN (at3 (mg (lineT t to 1)) 2))), (7, .int 2), (6, .int (nI (ln (mg (lineT t to 1))))), (5, .int 1), (0, .long (b5 t)), (2, .int (nI to))]) hx hb dX0_pushed_57 rfl hl (by decide) rfl (fun ls hl => ?_)
  refine lv_iinc (v := 3) (lv' := [(7, .int 3), (3, .long (b5 (prt t to 6))), (8, .long (lN (at3 (mg (lineT t to 1)) 2))), (6, .int (nI (ln (mg (lineT t to 1))))), (5, .int 1), (0, .long (b5 t)), (2, .int (nI to))]) hx hb dX0_pushed_58 hl (k := 2) rfl (by decide) (by decide) rfl (fun ls hl => ?_)
  refine lv_goto (tgt := 26) hx hb dX0_pushed_61 (by decide) ?_
  refine lv_iload hx hb dX0_pushed_26 (lv_at hl 0 rfl) ?_
  refine lv_iconst (v := 3) hx hb dX0_pushed_28 (by decide) ?_
  refine lv_icmp_ge (tgt := 64) hx hb dX0_pushed_29 (by decide) (fun _ => ?_) (fun c34 => absurd (by decide) c34)
  refine lv_iinc (v := 2) (lv' := [(5, .int 2), (7, .int 3), (3, .long (b5 (prt t to 6))), (8, .long (lN (at3 (mg (lineT t to 1)) 2))), (6, .int (nI (ln (mg (lineT t to 1))))), (0, .long (b5 t)), (2, .int (nI to))]) hx hb dX0_pushed_64 hl (k := 4) rfl (by decide) (by decide) rfl (fun ls hl => ?_)
  refine lv_goto (tgt := 5) hx hb dX0_pushed_67 (by decide) ?_
  refine lv_iload hx hb dX0_pushed_5 (lv_at hl 0 rfl) ?_
  refine lv_iconst (v := 3) hx hb dX0_pushed_7 (by decide) ?_
  refine lv_icmp_ge (tgt := 70) hx hb dX0_pushed_8 (by decide) (fun c35 => absurd c35 (by decide)) (fun _ => ?_)
  refine lv_lload_n hx hb dX0_pushed_11 rfl (lv_at hl 5 rfl) ?_
  refine lv_iload_n hx hb dX0_pushed_12 rfl (lv_at hl 6 rfl) ?_
  refine lv_iload hx hb dX0_pushed_13 (lv_at hl 0 rfl) ?_
  refine hm_callS (rest := []) (k := 2) q3_95 q3_96 q1_24 q3_97 nm_X0_gathered rfl hx hb hml hown hts hK hO hS hH hl.1 (c_X0_gathered Γ l t to 2 _ (tl_mono ht (by decide)) hto (by decide)) ⟨Nat.le_of_ble_eq_true rfl, Nat.le_of_ble_eq_true rfl⟩ ⟨Nat.le_of_ble_eq_true rfl, Nat.le_of_ble_eq_true rfl⟩ rfl (Nat.le_of_ble_eq_true rfl) dX0_pushed_15 (fun v_ f_ H locs hp_ hH hS => ?_)
  obtain ⟨rfl, ef_⟩ := hp_
  rw [ef_] at hH
  clear ef_
  refine W.eq (g2 := F0 m 18 ls [.int (nI (ln (lineT t to 2)))]) rfl ?_
  refine hm_callS (rest := []) (k := 2) q3_101 q3_102 q1_24 q3_103 nm_X0_merged rfl hx hb hml hown hts hK hO hS hH hl.1 (c_X0_merged Γ l (lineT t to 2) _ (lineT_lt ht hto (by decide))) ⟨Nat.le_of_ble_eq_true rfl, Nat.le_of_ble_eq_true rfl⟩ ⟨Nat.le_of_ble_eq_true rfl, Nat.le_of_ble_eq_true rfl⟩ rfl (Nat.le_of_ble_eq_true rfl) dX0_pushed_18 (fun v_ f_ H locs hp_ hH hS => ?_)
  obtain ⟨rfl, ef_⟩ := hp_
  rw [ef_] at hH
  clear ef_
  refine W.eq (g2 := F0 m 21 ls [.int (nI (ln (mg (lineT t to 2))))]) rfl ?_
  refine lv_istore (lv' := [(6, .int (nI (ln (mg (lineT t to 2))))), (5, .int 2), (7, .int 3), (3, .long (b5 (prt t to 6))), (8, .long (lN (at3 (mg (lineT t to 1)) 2))), (0, .long (b5 t)), (2, .int (nI to))]) hx hb dX0_pushed_21 hl (by decide) rfl (fun ls hl => ?_)
  refine lv_iconst (v := 0) hx hb dX0_pushed_23 (by decide) ?_
  refine lv_istore (lv' := [(7, .int 0), (6, .int (nI (ln (mg (lineT t to 2))))), (5, .int 2), (3, .long (b5 (prt t to 6))), (8, .long (lN (at3 (mg (lineT t to 1)) 2))), (0, .long (b5 t)), (2, .int (nI to))]) hx hb dX0_pushed_24 hl (by decide) rfl (fun ls hl => ?_)
  refine lv_iload hx hb dX0_pushed_26 (lv_at hl 0 rfl) ?_
  refine lv_iconst (v := 3) hx hb dX0_pushed_28 (by decide) ?_
  refine lv_icmp_ge (tgt := 64) hx hb dX0_pushed_29 (by decide) (fun c36 => absurd c36 (by decide)) (fun _ => ?_)
  refine lv_iload hx hb dX0_pushed_32 (lv_at hl 1 rfl) ?_
  refine lv_iload hx hb dX0_pushed_34 (lv_at hl 0 rfl) ?_
  refine hm_callS (rest := []) (k := 1) q3_107 q3_108 q1_24 q3_109 nm_X0_tileIn rfl hx hb hml hown hts hK hO hS hH hl.1 (c_X0_tileIn Γ l (mg (lineT t to 2)) 0 _ ⟨mg_lt (lineT_lt ht hto (i := 2) (by decide)) 0, mg_lt (lineT_lt ht hto (i := 2) (by decide)) 1, mg_lt (lineT_lt ht hto (i := 2) (by decide)) 2⟩ (by decide)) ⟨Nat.le_of_ble_eq_true rfl, Nat.le_of_ble_eq_true rfl⟩ ⟨Nat.le_of_ble_eq_true rfl, Nat.le_of_ble_eq_true rfl⟩ rfl (Nat.le_of_ble_eq_true rfl) dX0_pushed_36 (fun v_ f_ H locs hp_ hH hS => ?_)
  obtain ⟨rfl, ef_⟩ := hp_
  rw [ef_] at hH
  clear ef_
  refine W.eq (g2 := F0 m 39 ls [.int (nI (at3 (mg (lineT t to 2)) 0))]) rfl ?_
  refine lv_i2l hx hb dX0_pushed_39 rfl ?_
  refine lv_topl (fun v37 ev37 => ?_)
  replace ev37 : v37 = lN (at3 (mg (lineT t to 2)) 0) := ev37.trans (nI_l (by have := mg_lt (lineT_lt ht hto (i := 2) (by decide)) 0; omega))
  subst ev37
  refine lv_lstore (lv' := [(8, .long (lN (at3 (mg (lineT t to 2)) 0))), (7, .int 0), (6, .int (nI (ln (mg (lineT t to 2))))), (5, .int 2), (3, .long (b5 (prt t to 6))), (0, .long (b5 t)), (2, .int (nI to))]) hx hb dX0_pushed_40 hl (by decide) rfl (fun ls hl => ?_)
  refine lv_lload_n hx hb dX0_pushed_42 rfl (lv_at hl 4 rfl) ?_
  refine lv_lload hx hb dX0_pushed_43 (lv_at hl 0 rfl) ?_
  refine lv_iload_n hx hb dX0_pushed_45 rfl (lv_at hl 6 rfl) ?_
  refine lv_iload hx hb dX0_pushed_46 (lv_at hl 3 rfl) ?_
  refine lv_iload hx hb dX0_pushed_48 (lv_at hl 1 rfl) ?_
  refine hm_callS (rest := [.long (lN (at3 (mg (lineT t to 2)) 0)), .long (b5 (prt t to 6))]) (k := 1) q3_98 q3_99 q1_24 q3_100 nm_X0_cellOf rfl hx hb hml hown hts hK hO hS hH hl.1 (c_X0_cellOf Γ l to 2 0 _ hto (by decide) (by decide)) ⟨Nat.le_of_ble_eq_true rfl, Nat.le_of_ble_eq_true rfl⟩ ⟨Nat.le_of_ble_eq_true rfl, Nat.le_of_ble_eq_true rfl⟩ rfl (Nat.le_of_ble_eq_true rfl) dX0_pushed_50 (fun v_ f_ H locs hp_ hH hS => ?_)
  obtain ⟨rfl, ef_⟩ := hp_
  rw [ef_] at hH
  clear ef_
  refine W.eq (g2 := F0 m 53 ls [.int (nI (cO to 2 0)), .long (lN (at3 (mg (lineT t to 2)) 0)), .long (b5 (prt t to 6))]) rfl ?_
  refine lv_iconst (v := 5) hx hb dX0_pushed_53 (by decide) ?_
  refine lv_imul hx hb dX0_pushed_54 ?_
  refine lv_topi (fun v38 ev38 => ?_)
  refine lv_lshl hx hb dX0_pushed_55 rfl ?_
  refine lv_topl (fun v39 ev39 => ?_)
  refine lv_lor hx hb dX0_pushed_56 ?_
  refine lv_topl (fun v40 ev40 => ?_)
  replace ev40 : v40 = b5 (prt t to 7) := ev40.trans (by subst_vars; rw [b5_or (prt_lt ht hto 6) (cO_lt to hto 2 (by decide) 0 (by decide)) (prt_z t hto (i := 2) (p := 0) (by decide) (by decide)) (by have := mg_lt (lineT_lt ht hto (i := 2) (by decide)) 0; omega), prt_s t hto (i := 2) (p := 0) (by decide) (by decide)])
  subst ev40
  refine lv_lstore_n (lv' := [(3, .long (b5 (prt t to 7))), (8, .long (lN (at3 (mg (lineT t to 2)) 0))), (7, .int 0), (6, .int (nI (ln (mg (lineT t to 2))))), (5, .int 2), (0, .long (b5 t)), (2, .int (nI to))]) hx hb dX0_pushed_57 rfl hl (by decide) rfl (fun ls hl => ?_)
  refine lv_iinc (v := 1) (lv' := [(7, .int 1), (3, .long (b5 (prt t to 7))), (8, .long (lN (at3 (mg (lineT t to 2)) 0))), (6, .int (nI (ln (mg (lineT t to 2))))), (5, .int 2), (0, .long (b5 t)), (2, .int (nI to))]) hx hb dX0_pushed_58 hl (k := 2) rfl (by decide) (by decide) rfl (fun ls hl => ?_)
  refine lv_goto (tgt := 26) hx hb dX0_pushed_61 (by decide) ?_
  refine lv_iload hx hb dX0_pushed_26 (lv_at hl 0 rfl) ?_
  refine lv_iconst (v := 3) hx hb dX0_pushed_28 (by decide) ?_
  refine lv_icmp_ge (tgt := 64) hx hb dX0_pushed_29 (by decide) (fun c41 => absurd c41 (by decide)) (fun _ => ?_)
  refine lv_iload hx hb dX0_pushed_32 (lv_at hl 3 rfl) ?_
  refine lv_iload hx hb dX0_pushed_34 (lv_at hl 0 rfl) ?_
  refine hm_callS (rest := []) (k := 1) q3_107 q3_108 q1_24 q3_109 nm_X0_tileIn rfl hx hb hml hown hts hK hO hS hH hl.1 (c_X0_tileIn Γ l (mg (lineT t to 2)) 1 _ ⟨mg_lt (lineT_lt ht hto (i := 2) (by decide)) 0, mg_lt (lineT_lt ht hto (i := 2) (by decide)) 1, mg_lt (lineT_lt ht hto (i := 2) (by decide)) 2⟩ (by decide)) ⟨Nat.le_of_ble_eq_true rfl, Nat.le_of_ble_eq_true rfl⟩ ⟨Nat.le_of_ble_eq_true rfl, Nat.le_of_ble_eq_true rfl⟩ rfl (Nat.le_of_ble_eq_true rfl) dX0_pushed_36 (fun v_ f_ H locs hp_ hH hS => ?_)
  obtain ⟨rfl, ef_⟩ := hp_
  rw [ef_] at hH
  clear ef_
  refine W.eq (g2 := F0 m 39 ls [.int (nI (at3 (mg (lineT t to 2)) 1))]) rfl ?_
  refine lv_i2l hx hb dX0_pushed_39 rfl ?_
  refine lv_topl (fun v42 ev42 => ?_)
  replace ev42 : v42 = lN (at3 (mg (lineT t to 2)) 1) := ev42.trans (nI_l (by have := mg_lt (lineT_lt ht hto (i := 2) (by decide)) 1; omega))
  subst ev42
  refine lv_lstore (lv' := [(8, .long (lN (at3 (mg (lineT t to 2)) 1))), (7, .int 1), (3, .long (b5 (prt t to 7))), (6, .int (nI (ln (mg (lineT t to 2))))), (5, .int 2), (0, .long (b5 t)), (2, .int (nI to))]) hx hb dX0_pushed_40 hl (by decide) rfl (fun ls hl => ?_)
  refine lv_lload_n hx hb dX0_pushed_42 rfl (lv_at hl 2 rfl) ?_
  refine lv_lload hx hb dX0_pushed_43 (lv_at hl 0 rfl) ?_
  refine lv_iload_n hx hb dX0_pushed_45 rfl (lv_at hl 6 rfl) ?_
  refine lv_iload hx hb dX0_pushed_46 (lv_at hl 4 rfl) ?_
  refine lv_iload hx hb dX0_pushed_48 (lv_at hl 1 rfl) ?_
  refine hm_callS (rest := [.long (lN (at3 (mg (lineT t to 2)) 1)), .long (b5 (prt t to 7))]) (k := 1) q3_98 q3_99 q1_24 q3_100 nm_X0_cellOf rfl hx hb hml hown hts hK hO hS hH hl.1 (c_X0_cellOf Γ l to 2 1 _ hto (by decide) (by decide)) ⟨Nat.le_of_ble_eq_true rfl, Nat.le_of_ble_eq_true rfl⟩ ⟨Nat.le_of_ble_eq_true rfl, Nat.le_of_ble_eq_true rfl⟩ rfl (Nat.le_of_ble_eq_true rfl) dX0_pushed_50 (fun v_ f_ H locs hp_ hH hS => ?_)
  obtain ⟨rfl, ef_⟩ := hp_
  rw [ef_] at hH
  clear ef_
  refine W.eq (g2 := F0 m 53 ls [.int (nI (cO to 2 1)), .long (lN (at3 (mg (lineT t to 2)) 1)), .long (b5 (prt t to 7))]) rfl ?_
  refine lv_iconst (v := 5) hx hb dX0_pushed_53 (by decide) ?_
  refine lv_imul hx hb dX0_pushed_54 ?_
  refine lv_topi (fun v43 ev43 => ?_)
  refine lv_lshl hx hb dX0_pushed_55 rfl ?_
  refine lv_topl (fun v44 ev44 => ?_)
  refine lv_lor hx hb dX0_pushed_56 ?_
  refine lv_topl (fun v45 ev45 => ?_)
  replace ev45 : v45 = b5 (prt t to 8) := ev45.trans (by subst_vars; rw [b5_or (prt_lt ht hto 7) (cO_lt to hto 2 (by decide) 1 (by decide)) (prt_z t hto (i := 2) (p := 1) (by decide) (by decide)) (by have := mg_lt (lineT_lt ht hto (i := 2) (by decide)) 1; omega), prt_s t hto (i := 2) (p := 1) (by decide) (by decide)])
  subst ev45
  refine lv_lstore_n (lv' := [(3, .long (b5 (prt t to 8))), (8, .long (lN (at3 (mg (lineT t to 2)) 1))), (7, .int 1), (6, .int (nI (ln (mg (lineT t to 2))))), (5, .int 2), (0, .long (b5 t)), (2, .int (nI to))]) hx hb dX0_pushed_57 rfl hl (by decide) rfl (fun ls hl => ?_)
  refine lv_iinc (v := 2) (lv' := [(7, .int 2), (3, .long (b5 (prt t to 8))), (8, .long (lN (at3 (mg (lineT t to 2)) 1))), (6, .int (nI (ln (mg (lineT t to 2))))), (5, .int 2), (0, .long (b5 t)), (2, .int (nI to))]) hx hb dX0_pushed_58 hl (k := 2) rfl (by decide) (by decide) rfl (fun ls hl => ?_)
  refine lv_goto (tgt := 26) hx hb dX0_pushed_61 (by decide) ?_
  refine lv_iload hx hb dX0_pushed_26 (lv_at hl 0 rfl) ?_
  refine lv_iconst (v := 3) hx hb dX0_pushed_28 (by decide) ?_
  refine lv_icmp_ge (tgt := 64) hx hb dX0_pushed_29 (by decide) (fun c46 => absurd c46 (by decide)) (fun _ => ?_)
  refine lv_iload hx hb dX0_pushed_32 (lv_at hl 3 rfl) ?_
  refine lv_iload hx hb dX0_pushed_34 (lv_at hl 0 rfl) ?_
  refine hm_callS (rest := []) (k := 1) q3_107 q3_108 q1_24 q3_109 nm_X0_tileIn rfl hx hb hml hown hts hK hO hS hH hl.1 (c_X0_tileIn Γ l (mg (lineT t to 2)) 2 _ ⟨mg_lt (lineT_lt ht hto (i := 2) (by decide)) 0, mg_lt (lineT_lt ht hto (i := 2) (by decide)) 1, mg_lt (lineT_lt ht hto (i := 2) (by decide)) 2⟩ (by decide)) ⟨Nat.le_of_ble_eq_true rfl, Nat.le_of_ble_eq_true rfl⟩ ⟨Nat.le_of_ble_eq_true rfl, Nat.le_of_ble_eq_true rfl⟩ rfl (Nat.le_of_ble_eq_true rfl) dX0_pushed_36 (fun v_ f_ H locs hp_ hH hS => ?_)
  obtain ⟨rfl, ef_⟩ := hp_
  rw [ef_] at hH
  clear ef_
  refine W.eq (g2 := F0 m 39 ls [.int (nI (at3 (mg (lineT t to 2)) 2))]) rfl ?_
  refine lv_i2l hx hb dX0_pushed_39 rfl ?_
  refine lv_topl (fun v47 ev47 => ?_)
  replace ev47 : v47 = lN (at3 (mg (lineT t to 2)) 2) := ev47.trans (nI_l (by have := mg_lt (lineT_lt ht hto (i := 2) (by decide)) 2; omega))
  subst ev47
  refine lv_lstore (lv' := [(8, .long (lN (at3 (mg (lineT t to 2)) 2))), (7, .int 2), (3, .long (b5 (prt t to 8))), (6, .int (nI (ln (mg (lineT t to 2))))), (5, .int 2), (0, .long (b5 t)), (2, .int (nI to))]) hx hb dX0_pushed_40 hl (by decide) rfl (fun ls hl => ?_)
  refine lv_lload_n hx hb dX0_pushed_42 rfl (lv_at hl 2 rfl) ?_
  refine lv_lload hx hb dX0_pushed_43 (lv_at hl 0 rfl) ?_
  refine lv_iload_n hx hb dX0_pushed_45 rfl (lv_at hl 6 rfl) ?_
  refine lv_iload hx hb dX0_pushed_46 (lv_at hl 4 rfl) ?_
  refine lv_iload hx hb dX0_pushed_48 (lv_at hl 1 rfl) ?_
  refine hm_callS (rest := [.long (lN (at3 (mg (lineT t to 2)) 2)), .long (b5 (prt t to 8))]) (k := 1) q3_98 q3_99 q1_24 q3_100 nm_X0_cellOf rfl hx hb hml hown hts hK hO hS hH hl.1 (c_X0_cellOf Γ l to 2 2 _ hto (by decide) (by decide)) ⟨Nat.le_of_ble_eq_true rfl, Nat.le_of_ble_eq_true rfl⟩ ⟨Nat.le_of_ble_eq_true rfl, Nat.le_of_ble_eq_true rfl⟩ rfl (Nat.le_of_ble_eq_true rfl) dX0_pushed_50 (fun v_ f_ H locs hp_ hH hS => ?_)
  obtain ⟨rfl, ef_⟩ := hp_
  rw [ef_] at hH
  clear ef_
  refine W.eq (g2 := F0 m 53 ls [.int (nI (cO to 2 2)), .long (lN (at3 (mg (lineT t to 2)) 2)), .long (b5 (prt t to 8))]) rfl ?_
  refine lv_iconst (v := 5) hx hb dX0_pushed_53 (by decide) ?_
  refine lv_imul hx hb dX0_pushed_54 ?_
  refine lv_topi (fun v48 ev48 => ?_)
  refine lv_lshl hx hb dX0_pushed_55 rfl ?_
  refine lv_topl (fun v49 ev49 => ?_)
  refine lv_lor hx hb dX0_pushed_56 ?_
  refine lv_topl (fun v50 ev50 => ?_)
  replace ev50 : v50 = b5 (prt t to 9) := ev50.trans (by subst_vars; rw [b5_or (prt_lt ht hto 8) (cO_lt to hto 2 (by decide) 2 (by decide)) (prt_z t hto (i := 2) (p := 2) (by decide) (by decide)) (by have := mg_lt (lineT_lt ht hto (i := 2) (by decide)) 2; omega), prt_s t hto (i := 2) (p := 2) (by decide) (by decide)])
  subst ev50
  refine lv_lstore_n (lv' := [(3, .long (b5 (prt t to 9))), (8, .long (lN (at3 (mg (lineT t to 2)) 2))), (7, .int 2), (6, .int (nI (ln (mg (lineT t to 2))))), (5, .int 2), (0, .long (b5 t)), (2, .int (nI to))]) hx hb dX0_pushed_57 rfl hl (by decide) rfl (fun ls hl => ?_)
  refine lv_iinc (v := 3) (lv' := [(7, .int 3), (3, .long (b5 (prt t to 9))), (8, .long (lN (at3 (mg (lineT t to 2)) 2))), (6, .int (nI (ln (mg (lineT t to 2))))), (5, .int 2), (0, .long (b5 t)), (2, .int (nI to))]) hx hb dX0_pushed_58 hl (k := 2) rfl (by decide) (by decide) rfl (fun ls hl => ?_)
  refine lv_goto (tgt := 26) hx hb dX0_pushed_61 (by decide) ?_
  refine lv_iload hx hb dX0_pushed_26 (lv_at hl 0 rfl) ?_
  refine lv_iconst (v := 3) hx hb dX0_pushed_28 (by decide) ?_
  refine lv_icmp_ge (tgt := 64) hx hb dX0_pushed_29 (by decide) (fun _ => ?_) (fun c51 => absurd (by decide) c51)
  refine lv_iinc (v := 3) (lv' := [(5, .int 3), (7, .int 3), (3, .long (b5 (prt t to 9))), (8, .long (lN (at3 (mg (lineT t to 2)) 2))), (6, .int (nI (ln (mg (lineT t to 2))))), (0, .long (b5 t)), (2, .int (nI to))]) hx hb dX0_pushed_64 hl (k := 4) rfl (by decide) (by decide) rfl (fun ls hl => ?_)
  refine lv_goto (tgt := 5) hx hb dX0_pushed_67 (by decide) ?_
  refine lv_iload hx hb dX0_pushed_5 (lv_at hl 0 rfl) ?_
  refine lv_iconst (v := 3) hx hb dX0_pushed_7 (by decide) ?_
  refine lv_icmp_ge (tgt := 70) hx hb dX0_pushed_8 (by decide) (fun _ => ?_) (fun c52 => absurd (by decide) c52)
  refine lv_lload_n hx hb dX0_pushed_70 rfl (lv_at hl 2 rfl) ?_
  subst ev49
  subst ev48
  subst ev44
  subst ev43
  subst ev39
  subst ev38
  subst ev32
  subst ev31
  subst ev27
  subst ev26
  subst ev22
  subst ev21
  subst ev15
  subst ev14
  subst ev10
  subst ev9
  subst ev5
  subst ev4
  exact hm_lret hx hb hr hlocks hS hH (pJ_of (b5_congr (prt_9 t hto))) (Nat.le_of_ble_eq_true rfl) (Nat.le_of_ble_eq_true rfl) dX0_pushed_71
