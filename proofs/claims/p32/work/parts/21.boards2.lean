/-! TileWarden.Boards, the rest -/
set_option maxHeartbeats 4000000 in
set_option maxRecDepth 100000 in
theorem c_X0_gainOf (Γ : Gm) (l : Launch) (t : Nat → Nat) (to : Nat) (f : Hm) (ht : tl 31 t) (hto : to < 4) : Ct Γ l yX0_gainOf cX0_gainOf 7 (some .int) 3 0 0 [.long (b5 t), .int (nI to)] f (pI (nI (gainT t to)) f) := by
  refine Ct_of (by decide +kernel) (Nat.le_of_ble_eq_true rfl) ?_
  intro p e s m args below meth c hx hb hr hml hown hin hlocks hts hH hO hK ls hl
  have hl : lv_has ls 7 [(0, .long (b5 t)), (2, .int (nI to))] := hl
  have hS : va_S (gA Γ) s.heap s.heap [] := va_S.rf
  have loop : ∀ (n i : Nat), i + n = 3 → ∀ (H : Heap) (locs : List Loc), hm_H Γ f H → va_S (gA Γ) s.heap H locs → ∀ ls : Array Slot, lv_has ls 7 [(4, .int (nI i)), (3, .int (nI (gsum t to i))), (0, .long (b5 t)), (2, .int (nI to))] → W p l e (rmk 3 0 0) s m args below meth c H locs 0 0 (MQ below (hm_Q Γ (pI (nI (gainT t to)) f)) args s 0 0 (gA Γ)) (F0 m 5 ls []) := by
    intro n
    induction n with
    | zero =>
      intro i hi H locs hH hS ls hl
      have hi3 : i = 3 := by omega
      subst hi3
      refine lv_iload hx hb dX0_gainOf_5 (lv_at hl 0 rfl) ?_
      refine lv_iconst (v := 3) hx hb dX0_gainOf_7 (by decide) ?_
      refine lv_icmp_ge (tgt := 53) hx hb dX0_gainOf_8 (by decide) (fun _ => ?_) (fun c1 => absurd (by decide) c1)
      refine lv_iload_n hx hb dX0_gainOf_53 rfl (lv_at hl 1 rfl) ?_
      exact hm_iret hx hb hr hlocks hS hH (pI_of (congrArg nI (gsum_3 t to))) (Nat.le_of_ble_eq_true rfl) (Nat.le_of_ble_eq_true rfl) dX0_gainOf_54
    | succ n ih =>
      intro i hi H locs hH hS ls hl
      have hi3 : i < 3 := by omega
      have hq2 := lineT_lt ht hto hi3
      have hq : (lineT t to i).1 < 32 ∧ (lineT t to i).2.1 < 32 ∧ (lineT t to i).2.2 < 32 := ⟨by omega, by omega, by omega⟩
      refine lv_iload hx hb dX0_gainOf_5 (lv_at hl 0 rfl) ?_
      refine lv_iconst (v := 3) hx hb dX0_gainOf_7 (by decide) ?_
      refine lv_icmp_ge (tgt := 53) hx hb dX0_gainOf_8 (by decide) (fun c1 => absurd c1 (nI_ge (a := i) (b := 3) hi3 (by decide))) (fun _ => ?_)
      refine lv_lload_n hx hb dX0_gainOf_11 rfl (lv_at hl 2 rfl) ?_
      refine lv_iload_n hx hb dX0_gainOf_12 rfl (lv_at hl 3 rfl) ?_
      refine lv_iload hx hb dX0_gainOf_13 (lv_at hl 0 rfl) ?_
      refine hm_callS (rest := []) (k := 2) q3_95 q3_96 q1_24 q3_97 nm_X0_gathered rfl hx hb hml hown hts hK hO hS hH hl.1 (c_X0_gathered Γ l t to i _ (tl_mono ht (by decide)) hto hi3) ⟨Nat.le_of_ble_eq_true rfl, Nat.le_of_ble_eq_true rfl⟩ ⟨Nat.le_of_ble_eq_true rfl, Nat.le_of_ble_eq_true rfl⟩ rfl (Nat.le_of_ble_eq_true rfl) dX0_gainOf_15 (fun v_ f_ H locs hp_ hH hS => ?_)
      obtain ⟨rfl, ef_⟩ := hp_
      rw [ef_] at hH
      clear ef_
      refine W.eq (g2 := F0 m 18 ls [.int (nI (ln (lineT t to i)))]) rfl ?_
      refine lv_istore (lv' := [(5, .int (nI (ln (lineT t to i)))), (4, .int (nI i)), (3, .int (nI (gsum t to i))), (0, .long (b5 t)), (2, .int (nI to))]) hx hb dX0_gainOf_18 hl (by decide) rfl (fun ls hl => ?_)
      refine lv_iload hx hb dX0_gainOf_20 (lv_at hl 0 rfl) ?_
      refine hm_callS (rest := []) (k := 1) q3_104 q3_105 q1_24 q3_106 nm_X0_mergingPlace rfl hx hb hml hown hts hK hO hS hH hl.1 (c_X0_mergingPlace Γ l (lineT t to i) _ hq) ⟨Nat.le_of_ble_eq_true rfl, Nat.le_of_ble_eq_true rfl⟩ ⟨Nat.le_of_ble_eq_true rfl, Nat.le_of_ble_eq_true rfl⟩ rfl (Nat.le_of_ble_eq_true rfl) dX0_gainOf_22 (fun v_ f_ H locs hp_ hH hS => ?_)
      obtain ⟨rfl, ef_⟩ := hp_
      rw [ef_] at hH
      clear ef_
      refine W.eq (g2 := F0 m 25 ls [.int (mpI (lineT t to i))]) rfl ?_
      rcases m_mp3 (lineT t to i) with ⟨hm, hg⟩ | ⟨hm, hg⟩ | ⟨hm, hg⟩
      · rw [hm]
        refine lv_istore (lv' := [(6, .int 0), (5, .int (nI (ln (lineT t to i)))), (4, .int (nI i)), (3, .int (nI (gsum t to i))), (0, .long (b5 t)), (2, .int (nI to))]) hx hb dX0_gainOf_25 hl (by decide) rfl (fun ls hl => ?_)
        refine lv_iload hx hb dX0_gainOf_27 (lv_at hl 0 rfl) ?_
        refine lv_iconst (v := (-1)) hx hb dX0_gainOf_29 (by decide) ?_
        refine lv_icmp_eq (tgt := 47) hx hb dX0_gainOf_30 (by decide) (fun c2 => absurd c2 (by decide)) (fun _ => ?_)
        refine lv_iload_n hx hb dX0_gainOf_33 rfl (lv_at hl 3 rfl) ?_
        refine lv_iconst (v := 1) hx hb dX0_gainOf_34 (by decide) ?_
        refine lv_iload hx hb dX0_gainOf_35 (lv_at hl 1 rfl) ?_
        refine lv_iload hx hb dX0_gainOf_37 (lv_at hl 0 rfl) ?_
        refine hm_callS (rest := [.int 1, .int (nI (gsum t to i))]) (k := 1) q3_107 q3_108 q1_24 q3_109 nm_X0_tileIn rfl hx hb hml hown hts hK hO hS hH hl.1 (c_X0_tileIn Γ l (lineT t to i) 0 _ hq (by decide)) ⟨Nat.le_of_ble_eq_true rfl, Nat.le_of_ble_eq_true rfl⟩ ⟨Nat.le_of_ble_eq_true rfl, Nat.le_of_ble_eq_true rfl⟩ rfl (Nat.le_of_ble_eq_true rfl) dX0_gainOf_39 (fun v_ f_ H locs hp_ hH hS => ?_)
        obtain ⟨rfl, ef_⟩ := hp_
        rw [ef_] at hH
        clear ef_
        refine W.eq (g2 := F0 m 42 ls [.int (nI (at3 (lineT t to i) 0)), .int 1, .int (nI (gsum t to i))]) rfl ?_
        refine lv_iconst (v := 1) hx hb dX0_gainOf_42 (by decide) ?_
        refine lv_iadd hx hb dX0_gainOf_43 ?_
        refine lv_topi (fun v3 ev3 => ?_)
        replace ev3 : v3 = nI (at3 (lineT t to i) 0 + 1) := ev3.trans (nI_1 _)
        subst ev3
        refine lv_ishl hx hb dX0_gainOf_44 ?_
        refine lv_topi (fun v4 ev4 => ?_)
        replace ev4 : v4 = nI (gn (lineT t to i)) := ev4.trans (by rw [m_1shl _ (by have := at3_lt hq2 0; omega), hg])
        subst ev4
        refine lv_iadd hx hb dX0_gainOf_45 ?_
        refine lv_topi (fun v5 ev5 => ?_)
        replace ev5 : v5 = nI (gsum t to (i + 1)) := ev5.trans (nI_add _ _)
        subst ev5
        refine lv_istore_n (lv' := [(3, .int (nI (gsum t to (i + 1)))), (6, .int 0), (5, .int (nI (ln (lineT t to i)))), (4, .int (nI i)), (0, .long (b5 t)), (2, .int (nI to))]) hx hb dX0_gainOf_46 rfl hl (by decide) rfl (fun ls hl => ?_)
        refine lv_iinc (v := (nI (i + 1))) (lv' := [(4, .int ((nI (i + 1)))), (3, .int (nI (gsum t to (i + 1)))), (6, .int 0), (5, .int (nI (ln (lineT t to i)))), (0, .long (b5 t)), (2, .int (nI to))]) hx hb dX0_gainOf_47 hl (k := 3) rfl (nI_1 i) (by decide) rfl (fun ls hl => ?_)
        refine lv_goto (tgt := 5) hx hb dX0_gainOf_50 (by decide) ?_
        exact ih (i + 1) (by omega) H locs hH hS ls (lv_sub hl [0, 1, 4, 5] rfl)
      · rw [hm]
        refine lv_istore (lv' := [(6, .int 1), (5, .int (nI (ln (lineT t to i)))), (4, .int (nI i)), (3, .int (nI (gsum t to i))), (0, .long (b5 t)), (2, .int (nI to))]) hx hb dX0_gainOf_25 hl (by decide) rfl (fun ls hl => ?_)
        refine lv_iload hx hb dX0_gainOf_27 (lv_at hl 0 rfl) ?_
        refine lv_iconst (v := (-1)) hx hb dX0_gainOf_29 (by decide) ?_
        refine lv_icmp_eq (tgt := 47) hx hb dX0_gainOf_30 (by decide) (fun c6 => absurd c6 (by decide)) (fun _ => ?_)
        refine lv_iload_n hx hb dX0_gainOf_33 rfl (lv_at hl 3 rfl) ?_
        refine lv_iconst (v := 1) hx hb dX0_gainOf_34 (by decide) ?_
        refine lv_iload hx hb dX0_gainOf_35 (lv_at hl 1 rfl) ?_
        refine lv_iload hx hb dX0_gainOf_37 (lv_at hl 0 rfl) ?_
        refine hm_callS (rest := [.int 1, .int (nI (gsum t to i))]) (k := 1) q3_107 q3_108 q1_24 q3_109 nm_X0_tileIn rfl hx hb hml hown hts hK hO hS hH hl.1 (c_X0_tileIn Γ l (lineT t to i) 1 _ hq (by decide)) ⟨Nat.le_of_ble_eq_true rfl, Nat.le_of_ble_eq_true rfl⟩ ⟨Nat.le_of_ble_eq_true rfl, Nat.le_of_ble_eq_true rfl⟩ rfl (Nat.le_of_ble_eq_true rfl) dX0_gainOf_39 (fun v_ f_ H locs hp_ hH hS => ?_)
        obtain ⟨rfl, ef_⟩ := hp_
        rw [ef_] at hH
        clear ef_
        refine W.eq (g2 := F0 m 42 ls [.int (nI (at3 (lineT t to i) 1)), .int 1, .int (nI (gsum t to i))]) rfl ?_
        refine lv_iconst (v := 1) hx hb dX0_gainOf_42 (by decide) ?_
        refine lv_iadd hx hb dX0_gainOf_43 ?_
        refine lv_topi (fun v7 ev7 => ?_)
        replace ev7 : v7 = nI (at3 (lineT t to i) 1 + 1) := ev7.trans (nI_1 _)
        subst ev7
        refine lv_ishl hx hb dX0_gainOf_44 ?_
        refine lv_topi (fun v8 ev8 => ?_)
        replace ev8 : v8 = nI (gn (lineT t to i)) := ev8.trans (by rw [m_1shl _ (by have := at3_lt hq2 1; omega), hg])
        subst ev8
        refine lv_iadd hx hb dX0_gainOf_45 ?_
        refine lv_topi (fun v9 ev9 => ?_)
        replace ev9 : v9 = nI (gsum t to (i + 1)) := ev9.trans (nI_add _ _)
        subst ev9
        refine lv_istore_n (lv' := [(3, .int (nI (gsum t to (i + 1)))), (6, .int 1), (5, .int (nI (ln (lineT t to i)))), (4, .int (nI i)), (0, .long (b5 t)), (2, .int (nI to))]) hx hb dX0_gainOf_46 rfl hl (by decide) rfl (fun ls hl => ?_)
        refine lv_iinc (v := (nI (i + 1))) (lv' := [(4, .int ((nI (i + 1)))), (3, .int (nI (gsum t to (i + 1)))), (6, .int 1), (5, .int (nI (ln (lineT t to i)))), (0, .long (b5 t)), (2, .int (nI to))]) hx hb dX0_gainOf_47 hl (k := 3) rfl (nI_1 i) (by decide) rfl (fun ls hl => ?_)
        refine lv_goto (tgt := 5) hx hb dX0_gainOf_50 (by decide) ?_
        exact ih (i + 1) (by omega) H locs hH hS ls (lv_sub hl [0, 1, 4, 5] rfl)
      · rw [hm]
        refine lv_istore (lv' := [(6, .int ((-1))), (5, .int (nI (ln (lineT t to i)))), (4, .int (nI i)), (3, .int (nI (gsum t to i))), (0, .long (b5 t)), (2, .int (nI to))]) hx hb dX0_gainOf_25 hl (by decide) rfl (fun ls hl => ?_)
        refine lv_iload hx hb dX0_gainOf_27 (lv_at hl 0 rfl) ?_
        refine lv_iconst (v := (-1)) hx hb dX0_gainOf_29 (by decide) ?_
        refine lv_icmp_eq (tgt := 47) hx hb dX0_gainOf_30 (by decide) (fun _ => ?_) (fun c10 => absurd (by decide) c10)
        refine lv_iinc (v := (nI (i + 1))) (lv' := [(4, .int ((nI (i + 1)))), (6, .int ((-1))), (5, .int (nI (ln (lineT t to i)))), (3, .int (nI (gsum t to i))), (0, .long (b5 t)), (2, .int (nI to))]) hx hb dX0_gainOf_47 hl (k := 2) rfl (nI_1 i) (by decide) rfl (fun ls hl => ?_)
        refine lv_goto (tgt := 5) hx hb dX0_gainOf_50 (by decide) ?_
        have hl := hl
        rw [show gsum t to i = gsum t to (i + 1) by show _ = _ + _; rw [hg]; rfl] at hl
        exact ih (i + 1) (by omega) H locs hH hS ls (lv_sub hl [0, 3, 4, 5] rfl)
  refine lv_iconst (v := 0) hx hb dX0_gainOf_0 (by decide) ?_
  refine lv_istore_n (lv' := [(3, .int 0), (0, .long (b5 t)), (2, .int (nI to))]) hx hb dX0_gainOf_1 rfl hl (by decide) rfl (fun ls hl => ?_)
  refine lv_iconst (v := 0) hx hb dX0_gainOf_2 (by decide) ?_
  refine lv_istore (lv' := [(4, .int 0), (3, .int 0), (0, .long (b5 t)), (2, .int (nI to))]) hx hb dX0_gainOf_3 hl (by decide) rfl (fun ls hl => ?_)
  exact loop 3 0 rfl s.heap [] hH hS ls (lv_sub hl [0, 1, 2, 3] rfl)
set_option maxHeartbeats 4000000 in
set_option maxRecDepth 100000 in
theorem c_X0_countEmpty (Γ : Gm) (l : Launch) (t : Nat → Nat) (f : Hm) (ht : tl 32 t) : Ct Γ l yX0_countEmpty cX0_countEmpty 4 (some .int) 2 0 0 [.long (b5 t)] f (pI (nI (cntE t 9)) f) := by
  refine Ct_of (by decide +kernel) (Nat.le_of_ble_eq_true rfl) ?_
  intro p e s m args below meth c hx hb hr hml hown hin hlocks hts hH hO hK ls hl
  have hl : lv_has ls 4 [(0, .long (b5 t))] := hl
  have hS : va_S (gA Γ) s.heap s.heap [] := va_S.rf
  have loop : ∀ (n i : Nat), i + n = 9 → ∀ (H : Heap) (locs : List Loc), hm_H Γ f H → va_S (gA Γ) s.heap H locs → ∀ ls : Array Slot, lv_has ls 4 [(3, .int (nI i)), (2, .int (nI (cntE t i))), (0, .long (b5 t))] → W p l e (rmk 2 0 0) s m args below meth c H locs 0 0 (MQ below (hm_Q Γ (pI (nI (cntE t 9)) f)) args s 0 0 (gA Γ)) (F0 m 4 ls []) := by
    intro n
    induction n with
    | zero =>
      intro i hi H locs hH hS ls hl
      have hi3 : i = 9 := by omega
      subst hi3
      refine lv_iload_n hx hb dX0_countEmpty_4 rfl (lv_at hl 0 rfl) ?_
      refine lv_bipush (v := 9) hx hb dX0_countEmpty_5 (by decide) ?_
      refine lv_icmp_ge (tgt := 27) hx hb dX0_countEmpty_7 (by decide) (fun _ => ?_) (fun c1 => absurd (by decide) c1)
      refine lv_iload_n hx hb dX0_countEmpty_27 rfl (lv_at hl 1 rfl) ?_
      exact hm_iret hx hb hr hlocks hS hH (pI_of (rfl)) (Nat.le_of_ble_eq_true rfl) (Nat.le_of_ble_eq_true rfl) dX0_countEmpty_28
    | succ n ih =>
      intro i hi H locs hH hS ls hl
      have hi9 : i < 9 := by omega
      refine lv_iload_n hx hb dX0_countEmpty_4 rfl (lv_at hl 0 rfl) ?_
      refine lv_bipush (v := 9) hx hb dX0_countEmpty_5 (by decide) ?_
      refine lv_icmp_ge (tgt := 27) hx hb dX0_countEmpty_7 (by decide) (fun c1 => absurd c1 (nI_ge (a := i) (b := 9) hi9 (by decide))) (fun _ => ?_)
      refine lv_lload_n hx hb dX0_countEmpty_10 rfl (lv_at hl 2 rfl) ?_
      refine lv_iload_n hx hb dX0_countEmpty_11 rfl (lv_at hl 0 rfl) ?_
      refine hm_callS (rest := []) (k := 1) q3_25 q3_26 q1_24 q3_27 nm_X0_tileAt rfl hx hb hml hown hts hK hO hS hH hl.1 (c_X0_tileAt Γ l t i _ ht hi9) ⟨Nat.le_of_ble_eq_true rfl, Nat.le_of_ble_eq_true rfl⟩ ⟨Nat.le_of_ble_eq_true rfl, Nat.le_of_ble_eq_true rfl⟩ rfl (Nat.le_of_ble_eq_true rfl) dX0_countEmpty_12 (fun v_ f_ H locs hp_ hH hS => ?_)
      obtain ⟨rfl, ef_⟩ := hp_
      rw [ef_] at hH
      clear ef_
      refine W.eq (g2 := F0 m 15 ls [.int (nI (t i))]) rfl ?_
      refine lv_if_ne (tgt := 21) hx hb dX0_countEmpty_15 (by decide) (fun c2 => ?_) (fun c2 => ?_)
      · refine lv_iinc (v := (nI (i + 1))) (lv' := [(3, .int ((nI (i + 1)))), (2, .int (nI (cntE t i))), (0, .long (b5 t))]) hx hb dX0_countEmpty_21 hl (k := 0) rfl (nI_1 i) (by decide) rfl (fun ls hl => ?_)
        refine lv_goto (tgt := 4) hx hb dX0_countEmpty_24 (by decide) ?_
        have h0 : ¬ t i = 0 := (fun qq_ => c2 ((nI_eq (a := t i) (b := 0) (by have := ht i hi9; omega) (by omega)).mpr qq_))
        rw [show cntE t i = cntE t (i + 1) by show _ = _ + _; rw [if_neg h0]; rfl] at hl
        exact ih (i + 1) (by omega) H locs hH hS ls (lv_sub hl [0, 1, 2] rfl)
      · refine lv_iinc (v := (nI (cntE t i + 1))) (lv' := [(2, .int ((nI (cntE t i + 1)))), (3, .int (nI i)), (0, .long (b5 t))]) hx hb dX0_countEmpty_18 hl (k := 1) rfl (nI_1 _) (by decide) rfl (fun ls hl => ?_)
        refine lv_iinc (v := (nI (i + 1))) (lv' := [(3, .int ((nI (i + 1)))), (2, .int ((nI (cntE t i + 1)))), (0, .long (b5 t))]) hx hb dX0_countEmpty_21 hl (k := 1) rfl (nI_1 i) (by decide) rfl (fun ls hl => ?_)
        refine lv_goto (tgt := 4) hx hb dX0_countEmpty_24 (by decide) ?_
        have h0 : t i = 0 := (nI_eq (a := t i) (b := 0) (by have := ht i hi9; omega) (by omega)).mp c2
        rw [show cntE t i + 1 = cntE t (i + 1) by show _ = _ + _; rw [if_pos h0]] at hl
        exact ih (i + 1) (by omega) H locs hH hS ls (lv_sub hl [0, 1, 2] rfl)
  refine lv_iconst (v := 0) hx hb dX0_countEmpty_0 (by decide) ?_
  refine lv_istore_n (lv' := [(2, .int 0), (0, .long (b5 t))]) hx hb dX0_countEmpty_1 rfl hl (by decide) rfl (fun ls hl => ?_)
  refine lv_iconst (v := 0) hx hb dX0_countEmpty_2 (by decide) ?_
  refine lv_istore_n (lv' := [(3, .int 0), (2, .int 0), (0, .long (b5 t))]) hx hb dX0_countEmpty_3 rfl hl (by decide) rfl (fun ls hl => ?_)
  exact loop 9 0 rfl s.heap [] hH hS ls (lv_sub hl [0, 1, 2] rfl)
set_option maxHeartbeats 4000000 in
set_option maxRecDepth 100000 in
theorem c_X0_drawn (Γ : Gm) (l : Launch) (t : Nat → Nat) (z : Nat) (f : Hm) (ht : tl 32 t) : Ct Γ l yX0_drawn cX0_drawn 9 (some .long) 3 0 0 [.long (b5 t), .int (nI z)] f (pJ (b5 (drawT t z)) f) := by
  refine Ct_of (by decide +kernel) (Nat.le_of_ble_eq_true rfl) ?_
  intro p e s m args below meth c hx hb hr hml hown hin hlocks hts hH hO hK ls hl
  have hl : lv_has ls 9 [(0, .long (b5 t)), (2, .int (nI z))] := hl
  have hS : va_S (gA Γ) s.heap s.heap [] := va_S.rf
  have loop : ∀ (n i : Nat) (k : Nat), i + n = 9 → cntE t 9 ≠ 0 → k + cntE t i = nxt z / 65536 % cntE t 9 → ∀ (H : Heap) (locs : List Loc), hm_H Γ f H → va_S (gA Γ) s.heap H locs → ∀ ls : Array Slot, lv_has ls 9 [(8, .int (nI i)), (6, .long (lN (newTile z))), (5, .int (nI k)), (0, .long (b5 t))] → W p l e (rmk 3 0 0) s m args below meth c H locs 0 0 (MQ below (hm_Q Γ (pJ (b5 (drawT t z)) f)) args s 0 0 (gA Γ)) (F0 m 52 ls []) := by
    intro n
    induction n with
    | zero =>
      intro i k hi hc hk H locs hH hS ls hl
      have hi3 : i = 9 := by omega
      subst hi3
      have hl9 : nxt z / 65536 % cntE t 9 < cntE t 9 := Nat.mod_lt _ (by omega)
      omega
    | succ n ih =>
      intro i k hi hc hk H locs hH hS ls hl
      have hi9 : i < 9 := by omega
      have hl9 : nxt z / 65536 % cntE t 9 < cntE t 9 := Nat.mod_lt _ (by omega)
      have hc9 := cntE_le t 9
      refine lv_iload hx hb dX0_drawn_52 (lv_at hl 0 rfl) ?_
      refine lv_bipush (v := 9) hx hb dX0_drawn_54 (by decide) ?_
      refine lv_icmp_ge (tgt := 92) hx hb dX0_drawn_56 (by decide) (fun c1 => absurd c1 (nI_ge (a := i) (b := 9) hi9 (by decide))) (fun _ => ?_)
      refine lv_lload_n hx hb dX0_drawn_59 rfl (lv_at hl 3 rfl) ?_
      refine lv_iload hx hb dX0_drawn_60 (lv_at hl 0 rfl) ?_
      refine hm_callS (rest := []) (k := 1) q3_25 q3_26 q1_24 q3_27 nm_X0_tileAt rfl hx hb hml hown hts hK hO hS hH hl.1 (c_X0_tileAt Γ l t i _ ht hi9) ⟨Nat.le_of_ble_eq_true rfl, Nat.le_of_ble_eq_true rfl⟩ ⟨Nat.le_of_ble_eq_true rfl, Nat.le_of_ble_eq_true rfl⟩ rfl (Nat.le_of_ble_eq_true rfl) dX0_drawn_62 (fun v_ f_ H locs hp_ hH hS => ?_)
      obtain ⟨rfl, ef_⟩ := hp_
      rw [ef_] at hH
      clear ef_
      refine W.eq (g2 := F0 m 65 ls [.int (nI (t i))]) rfl ?_
      refine lv_if_ne (tgt := 86) hx hb dX0_drawn_65 (by decide) (fun c2 => ?_) (fun c2 => ?_)
      · refine lv_iinc (v := (nI (i + 1))) (lv' := [(8, .int ((nI (i + 1)))), (6, .long (lN (newTile z))), (5, .int (nI k)), (0, .long (b5 t))]) hx hb dX0_drawn_86 hl (k := 0) rfl (nI_1 i) (by decide) rfl (fun ls hl => ?_)
        refine lv_goto (tgt := 52) hx hb dX0_drawn_89 (by decide) ?_
        have h0 : ¬ t i = 0 := (fun qq_ => c2 ((nI_eq (a := t i) (b := 0) (by have := ht i hi9; omega) (by omega)).mpr qq_))
        have hs : cntE t (i + 1) = cntE t i := by show _ + _ = _; rw [if_neg h0]; rfl
        exact ih (i + 1) k (by omega) hc (by omega) H locs hH hS ls (lv_sub hl [0, 1, 2, 3] rfl)
      · refine lv_iload hx hb dX0_drawn_68 (lv_at hl 2 rfl) ?_
        refine lv_if_ne (tgt := 83) hx hb dX0_drawn_70 (by decide) (fun c3 => ?_) (fun c3 => ?_)
        · refine lv_iinc (v := (nI (k - 1))) (lv' := [(5, .int ((nI (k - 1)))), (8, .int (nI i)), (6, .long (lN (newTile z))), (0, .long (b5 t))]) hx hb dX0_drawn_83 hl (k := 2) rfl (by obtain ⟨j, rfl⟩ : ∃ j, k = j + 1 := ⟨k - 1, by have h1 : ¬ k = 0 := (fun q => c3 ((nI_eq (a := k) (b := 0) (by omega) (by omega)).mpr q)); omega⟩; exact pk_m1 j) (by decide) rfl (fun ls hl => ?_)
          refine lv_iinc (v := (nI (i + 1))) (lv' := [(8, .int ((nI (i + 1)))), (5, .int ((nI (k - 1)))), (6, .long (lN (newTile z))), (0, .long (b5 t))]) hx hb dX0_drawn_86 hl (k := 1) rfl (nI_1 i) (by decide) rfl (fun ls hl => ?_)
          refine lv_goto (tgt := 52) hx hb dX0_drawn_89 (by decide) ?_
          have h0 : t i = 0 := (nI_eq (a := t i) (b := 0) (by have := ht i hi9; omega) (by omega)).mp c2
          have h1 : ¬ k = 0 := (fun qq_ => c3 ((nI_eq (a := k) (b := 0) (by have := ht i hi9; omega) (by omega)).mpr qq_))
          have hs : cntE t (i + 1) = cntE t i + 1 := by show _ + _ = _; rw [if_pos h0]
          exact ih (i + 1) (k - 1) (by omega) hc (by omega) H locs hH hS ls (lv_sub hl [0, 2, 1, 3] rfl)
        · refine lv_lload_n hx hb dX0_drawn_73 rfl (lv_at hl 3 rfl) ?_
          refine lv_lload hx hb dX0_drawn_74 (lv_at hl 1 rfl) ?_
          refine lv_iload hx hb dX0_drawn_76 (lv_at hl 0 rfl) ?_
          refine lv_iconst (v := 5) hx hb dX0_drawn_78 (by decide) ?_
          refine lv_imul hx hb dX0_drawn_79 ?_
          refine lv_topi (fun v4 ev4 => ?_)
          refine lv_lshl hx hb dX0_drawn_80 rfl ?_
          refine lv_topl (fun v5 ev5 => ?_)
          refine lv_lor hx hb dX0_drawn_81 ?_
          refine lv_topl (fun v6 ev6 => ?_)
          subst ev6
          subst ev5
          subst ev4
          exact hm_lret hx hb hr hlocks hS hH (pJ_of (by have h0 : t i = 0 := (nI_eq (a := t i) (b := 0) (by have := ht i hi9; omega) (by omega)).mp c2; have h1 : k = 0 := (nI_eq (a := k) (b := 0) (by have := ht i hi9; omega) (by omega)).mp c3; rw [b5_or ht hi9 h0 (by have := newTile_le z; omega)]; unfold drawT; rw [if_neg hc, posE_eq hi9 h0 (by omega)])) (Nat.le_of_ble_eq_true rfl) (Nat.le_of_ble_eq_true rfl) dX0_drawn_82
  refine lv_lload_n hx hb dX0_drawn_0 rfl (lv_at hl 0 rfl) ?_
  refine hm_callS (rest := []) (k := 2) q3_22 q3_23 q1_24 q3_24 nm_X0_countEmpty rfl hx hb hml hown hts hK hO hS hH hl.1 (c_X0_countEmpty Γ l t _ ht) ⟨Nat.le_of_ble_eq_true rfl, Nat.le_of_ble_eq_true rfl⟩ ⟨Nat.le_of_ble_eq_true rfl, Nat.le_of_ble_eq_true rfl⟩ rfl (Nat.le_of_ble_eq_true rfl) dX0_drawn_1 (fun v_ f_ H locs hp_ hH hS => ?_)
  obtain ⟨rfl, ef_⟩ := hp_
  rw [ef_] at hH
  clear ef_
  refine W.eq (g2 := F0 m 4 ls [.int (nI (cntE t 9))]) rfl ?_
  refine lv_istore_n (lv' := [(3, .int (nI (cntE t 9))), (0, .long (b5 t)), (2, .int (nI z))]) hx hb dX0_drawn_4 rfl hl (by decide) rfl (fun ls hl => ?_)
  refine lv_iload_n hx hb dX0_drawn_5 rfl (lv_at hl 0 rfl) ?_
  refine lv_if_ne (tgt := 11) hx hb dX0_drawn_6 (by decide) (fun c1 => ?_) (fun c1 => ?_)
  · refine lv_iload_n hx hb dX0_drawn_11 rfl (lv_at hl 2 rfl) ?_
    refine hm_callS (rest := []) (k := 1) q3_14 q3_15 q1_24 q3_16 nm_X0_nextZ rfl hx hb hml hown hts hK hO hS hH hl.1 (c_X0_nextZ Γ l z _) ⟨Nat.le_of_ble_eq_true rfl, Nat.le_of_ble_eq_true rfl⟩ ⟨Nat.le_of_ble_eq_true rfl, Nat.le_of_ble_eq_true rfl⟩ rfl (Nat.le_of_ble_eq_true rfl) dX0_drawn_12 (fun v_ f_ H locs hp_ hH hS => ?_)
    obtain ⟨rfl, ef_⟩ := hp_
    rw [ef_] at hH
    clear ef_
    refine W.eq (g2 := F0 m 15 ls [.int (nI (nxt z))]) rfl ?_
    refine lv_istore (lv' := [(4, .int (nI (nxt z))), (3, .int (nI (cntE t 9))), (0, .long (b5 t)), (2, .int (nI z))]) hx hb dX0_drawn_15 hl (by decide) rfl (fun ls hl => ?_)
    refine lv_iload hx hb dX0_drawn_17 (lv_at hl 0 rfl) ?_
    refine lv_bipush (v := 16) hx hb dX0_drawn_19 (by decide) ?_
    refine lv_ishr hx hb dX0_drawn_21 ?_
    refine lv_topi (fun v2 ev2 => ?_)
    replace ev2 : v2 = nI (nxt z / 65536) := ev2.trans (m_65536 (by have := nxt_lt z; omega))
    subst ev2
    refine lv_iload_n hx hb dX0_drawn_22 rfl (lv_at hl 1 rfl) ?_
    refine lv_irem hx hb dX0_drawn_23 c1 ?_
    refine lv_topi (fun v3 ev3 => ?_)
    replace ev3 : v3 = nI (nxt z / 65536 % cntE t 9) := ev3.trans (m_rem (by have := nxt_lt z; omega) (by have hc : ¬ cntE t 9 = 0 := (fun qq_ => c1 ((nI_eq (a := cntE t 9) (b := 0) (by have := cntE_le t 9; omega) (by omega)).mpr qq_)); omega) (by have := cntE_le t 9; omega))
    subst ev3
    refine lv_istore (lv' := [(5, .int (nI (nxt z / 65536 % cntE t 9))), (4, .int (nI (nxt z))), (3, .int (nI (cntE t 9))), (0, .long (b5 t)), (2, .int (nI z))]) hx hb dX0_drawn_24 hl (by decide) rfl (fun ls hl => ?_)
    refine lv_iload hx hb dX0_drawn_26 (lv_at hl 1 rfl) ?_
    refine hm_callS (rest := []) (k := 1) q3_14 q3_15 q1_24 q3_16 nm_X0_nextZ rfl hx hb hml hown hts hK hO hS hH hl.1 (c_X0_nextZ Γ l (nxt z) _) ⟨Nat.le_of_ble_eq_true rfl, Nat.le_of_ble_eq_true rfl⟩ ⟨Nat.le_of_ble_eq_true rfl, Nat.le_of_ble_eq_true rfl⟩ rfl (Nat.le_of_ble_eq_true rfl) dX0_drawn_28 (fun v_ f_ H locs hp_ hH hS => ?_)
    obtain ⟨rfl, ef_⟩ := hp_
    rw [ef_] at hH
    clear ef_
    refine W.eq (g2 := F0 m 31 ls [.int (nI (nxt (nxt z)))]) rfl ?_
    refine lv_bipush (v := 16) hx hb dX0_drawn_31 (by decide) ?_
    refine lv_ishr hx hb dX0_drawn_33 ?_
    refine lv_topi (fun v4 ev4 => ?_)
    replace ev4 : v4 = nI (nxt (nxt z) / 65536) := ev4.trans (m_65536 (by have := nxt_lt ((nxt z)); omega))
    subst ev4
    refine lv_bipush (v := 10) hx hb dX0_drawn_34 (by decide) ?_
    refine lv_irem hx hb dX0_drawn_36 (by decide) ?_
    refine lv_topi (fun v5 ev5 => ?_)
    replace ev5 : v5 = nI (nxt (nxt z) / 65536 % 10) := ev5.trans (m_rem (d := 10) (by have := nxt_lt (nxt z); omega) (by decide) (by decide))
    subst ev5
    refine lv_if_ne (tgt := 46) hx hb dX0_drawn_37 (by decide) (fun c6 => ?_) (fun c6 => ?_)
    · refine lv_lconst (v := 1) hx hb dX0_drawn_46 (by decide) ?_
      refine lv_lstore (lv' := [(6, .long 1), (5, .int (nI (nxt z / 65536 % cntE t 9))), (4, .int (nI (nxt z))), (3, .int (nI (cntE t 9))), (0, .long (b5 t)), (2, .int (nI z))]) hx hb dX0_drawn_47 hl (by decide) rfl (fun ls hl => ?_)
      refine lv_iconst (v := 0) hx hb dX0_drawn_49 (by decide) ?_
      refine lv_istore (lv' := [(8, .int 0), (6, .long 1), (5, .int (nI (nxt z / 65536 % cntE t 9))), (4, .int (nI (nxt z))), (3, .int (nI (cntE t 9))), (0, .long (b5 t)), (2, .int (nI z))]) hx hb dX0_drawn_50 hl (by decide) rfl (fun ls hl => ?_)
      have hc : ¬ cntE t 9 = 0 := (fun qq_ => c1 ((nI_eq (a := cntE t 9) (b := 0) (by have := cntE_le t 9; omega) (by omega)).mpr qq_))
      have h1 : ¬ (nxt (nxt z) / 65536 % 10) = 0 := (fun qq_ => c6 ((nI_eq (a := nxt (nxt z) / 65536 % 10) (b := 0) (by omega) (by omega)).mpr qq_))
      have hl9 : nxt z / 65536 % cntE t 9 < cntE t 9 := Nat.mod_lt _ (by omega)
      have e6 : (1 : Int64) = lN (newTile z) := by rw [newT_1 h1]; rfl
      rw [e6] at hl
      exact loop 9 0 (nxt z / 65536 % cntE t 9) rfl hc (Nat.add_zero _) H locs hH hS ls (lv_sub hl [0, 1, 2, 5] rfl)
    · refine lv_ldc2 (v := 2) hx hb hown (hts _ q3_28) dX0_drawn_40 ?_
      refine lv_goto (tgt := 47) hx hb dX0_drawn_43 (by decide) ?_
      refine lv_lstore (lv' := [(6, .long 2), (5, .int (nI (nxt z / 65536 % cntE t 9))), (4, .int (nI (nxt z))), (3, .int (nI (cntE t 9))), (0, .long (b5 t)), (2, .int (nI z))]) hx hb dX0_drawn_47 hl (by decide) rfl (fun ls hl => ?_)
      refine lv_iconst (v := 0) hx hb dX0_drawn_49 (by decide) ?_
      refine lv_istore (lv' := [(8, .int 0), (6, .long 2), (5, .int (nI (nxt z / 65536 % cntE t 9))), (4, .int (nI (nxt z))), (3, .int (nI (cntE t 9))), (0, .long (b5 t)), (2, .int (nI z))]) hx hb dX0_drawn_50 hl (by decide) rfl (fun ls hl => ?_)
      have hc : ¬ cntE t 9 = 0 := (fun qq_ => c1 ((nI_eq (a := cntE t 9) (b := 0) (by have := cntE_le t 9; omega) (by omega)).mpr qq_))
      have h1 : (nxt (nxt z) / 65536 % 10) = 0 := (nI_eq (a := nxt (nxt z) / 65536 % 10) (b := 0) (by omega) (by omega)).mp c6
      have hl9 : nxt z / 65536 % cntE t 9 < cntE t 9 := Nat.mod_lt _ (by omega)
      have e6 : (2 : Int64) = lN (newTile z) := by rw [newT_0 h1]; rfl
      rw [e6] at hl
      exact loop 9 0 (nxt z / 65536 % cntE t 9) rfl hc (Nat.add_zero _) H locs hH hS ls (lv_sub hl [0, 1, 2, 5] rfl)
  · refine lv_lload_n hx hb dX0_drawn_9 rfl (lv_at hl 1 rfl) ?_
    exact hm_lret hx hb hr hlocks hS hH (pJ_of (by have hc : cntE t 9 = 0 := (nI_eq (a := cntE t 9) (b := 0) (by have := cntE_le t 9; omega) (by omega)).mp c1; unfold drawT; rw [if_pos hc])) (Nat.le_of_ble_eq_true rfl) (Nat.le_of_ble_eq_true rfl) dX0_drawn_10
set_option maxHeartbeats 4000000 in
set_option maxRecDepth 100000 in
theorem c_X0_canGo (Γ : Gm) (l : Launch) (t : Nat → Nat) (to : Nat) (f : Hm) (ht : tl 31 t) (hto : to < 4) : Ct Γ l yX0_canGo cX0_canGo 3 (some .boolean) 5 0 0 [.long (b5 t), .int (nI to)] f (pI (bI (goN t to)) f) := by
  refine Ct_of (by decide +kernel) (Nat.le_of_ble_eq_true rfl) ?_
  intro p e s m args below meth c hx hb hr hml hown hin hlocks hts hH hO hK ls hl
  have hl : lv_has ls 3 [(0, .long (b5 t)), (2, .int (nI to))] := hl
  have hS : va_S (gA Γ) s.heap s.heap [] := va_S.rf
  refine lv_lload_n hx hb dX0_canGo_0 rfl (lv_at hl 0 rfl) ?_
  refine lv_iload_n hx hb dX0_canGo_1 rfl (lv_at hl 1 rfl) ?_
  refine hm_callS (rest := []) (k := 4) q3_92 q3_93 q1_24 q3_94 nm_X0_pushed rfl hx hb hml hown hts hK hO hS hH hl.1 (c_X0_pushed Γ l t to _ ht hto) ⟨Nat.le_of_ble_eq_true rfl, Nat.le_of_ble_eq_true rfl⟩ ⟨Nat.le_of_ble_eq_true rfl, Nat.le_of_ble_eq_true rfl⟩ rfl (Nat.le_of_ble_eq_true rfl) dX0_canGo_2 (fun v_ f_ H locs hp_ hH hS => ?_)
  obtain ⟨rfl, ef_⟩ := hp_
  rw [ef_] at hH
  clear ef_
  refine W.eq (g2 := F0 m 5 ls [.long (b5 (pushT t to))]) rfl ?_
  refine lv_lload_n hx hb dX0_canGo_5 rfl (lv_at hl 0 rfl) ?_
  refine W.lcmp hx hb dX0_canGo_6 ?_
  refine lv_if_eq (tgt := 14) hx hb dX0_canGo_7 (by decide) (fun c2 => ?_) (fun c2 => ?_)
  · refine lv_iconst (v := 0) hx hb dX0_canGo_14 (by decide) ?_
    exact hm_zret hx hb hr rfl hlocks hS hH (pI_of (by rw [(goN_5 ht hto).mp (m_cmp.mp c2)]; rfl)) (Nat.le_of_ble_eq_true rfl) (Nat.le_of_ble_eq_true rfl) dX0_canGo_15
  · refine lv_iconst (v := 1) hx hb dX0_canGo_10 (by decide) ?_
    refine lv_goto (tgt := 15) hx hb dX0_canGo_11 (by decide) ?_
    exact hm_zret hx hb hr rfl hlocks hS hH (pI_of (by have h : goN t to = true := by { cases hb9 : goN t to with | true => rfl | false => exact absurd (m_cmp.mpr ((goN_5 ht hto).mpr hb9)) c2 }; rw [h]; rfl)) (Nat.le_of_ble_eq_true rfl) (Nat.le_of_ble_eq_true rfl) dX0_canGo_15
set_option maxHeartbeats 4000000 in
set_option maxRecDepth 100000 in
theorem c_X0_isStuck (Γ : Gm) (l : Launch) (t : Nat → Nat) (f : Hm) (ht : tl 31 t) : Ct Γ l yX0_isStuck cX0_isStuck 3 (some .boolean) 6 0 0 [.long (b5 t)] f (pI (bI (ovN t)) f) := by
  refine Ct_of (by decide +kernel) (Nat.le_of_ble_eq_true rfl) ?_
  intro p e s m args below meth c hx hb hr hml hown hin hlocks hts hH hO hK ls hl
  have hl : lv_has ls 3 [(0, .long (b5 t))] := hl
  have hS : va_S (gA Γ) s.heap s.heap [] := va_S.rf
  refine lv_iconst (v := 0) hx hb dX0_isStuck_0 (by decide) ?_
  refine lv_istore_n (lv' := [(2, .int 0), (0, .long (b5 t))]) hx hb dX0_isStuck_1 rfl hl (by decide) rfl (fun ls hl => ?_)
  refine lv_iload_n hx hb dX0_isStuck_2 rfl (lv_at hl 0 rfl) ?_
  refine lv_iconst (v := 4) hx hb dX0_isStuck_3 (by decide) ?_
  refine lv_icmp_ge (tgt := 23) hx hb dX0_isStuck_4 (by decide) (fun c1 => absurd c1 (by decide)) (fun _ => ?_)
  refine lv_lload_n hx hb dX0_isStuck_7 rfl (lv_at hl 1 rfl) ?_
  refine lv_iload_n hx hb dX0_isStuck_8 rfl (lv_at hl 0 rfl) ?_
  refine hm_callS (rest := []) (k := 5) q3_162 q3_90 q1_24 q3_91 nm_X0_canGo rfl hx hb hml hown hts hK hO hS hH hl.1 (c_X0_canGo Γ l t 0 _ ht (by decide)) ⟨Nat.le_of_ble_eq_true rfl, Nat.le_of_ble_eq_true rfl⟩ ⟨Nat.le_of_ble_eq_true rfl, Nat.le_of_ble_eq_true rfl⟩ rfl (Nat.le_of_ble_eq_true rfl) dX0_isStuck_9 (fun v_ f_ H locs hp_ hH hS => ?_)
  obtain ⟨rfl, ef_⟩ := hp_
  rw [ef_] at hH
  clear ef_
  refine W.eq (g2 := F0 m 12 ls [.int (bI (goN t 0))]) rfl ?_
  refine lv_if_eq (tgt := 17) hx hb dX0_isStuck_12 (by decide) (fun c2 => ?_) (fun c2 => ?_)
  · refine lv_iinc (v := 1) (lv' := [(2, .int 1), (0, .long (b5 t))]) hx hb dX0_isStuck_17 hl (k := 0) rfl (by decide) (by decide) rfl (fun ls hl => ?_)
    refine lv_goto (tgt := 2) hx hb dX0_isStuck_20 (by decide) ?_
    refine lv_iload_n hx hb dX0_isStuck_2 rfl (lv_at hl 0 rfl) ?_
    refine lv_iconst (v := 4) hx hb dX0_isStuck_3 (by decide) ?_
    refine lv_icmp_ge (tgt := 23) hx hb dX0_isStuck_4 (by decide) (fun c3 => absurd c3 (by decide)) (fun _ => ?_)
    refine lv_lload_n hx hb dX0_isStuck_7 rfl (lv_at hl 1 rfl) ?_
    refine lv_iload_n hx hb dX0_isStuck_8 rfl (lv_at hl 0 rfl) ?_
    refine hm_callS (rest := []) (k := 5) q3_162 q3_90 q1_24 q3_91 nm_X0_canGo rfl hx hb hml hown hts hK hO hS hH hl.1 (c_X0_canGo Γ l t 1 _ ht (by decide)) ⟨Nat.le_of_ble_eq_true rfl, Nat.le_of_ble_eq_true rfl⟩ ⟨Nat.le_of_ble_eq_true rfl, Nat.le_of_ble_eq_true rfl⟩ rfl (Nat.le_of_ble_eq_true rfl) dX0_isStuck_9 (fun v_ f_ H locs hp_ hH hS => ?_)
    obtain ⟨rfl, ef_⟩ := hp_
    rw [ef_] at hH
    clear ef_
    refine W.eq (g2 := F0 m 12 ls [.int (bI (goN t 1))]) rfl ?_
    refine lv_if_eq (tgt := 17) hx hb dX0_isStuck_12 (by decide) (fun c4 => ?_) (fun c4 => ?_)
    · refine lv_iinc (v := 2) (lv' := [(2, .int 2), (0, .long (b5 t))]) hx hb dX0_isStuck_17 hl (k := 0) rfl (by decide) (by decide) rfl (fun ls hl => ?_)
      refine lv_goto (tgt := 2) hx hb dX0_isStuck_20 (by decide) ?_
      refine lv_iload_n hx hb dX0_isStuck_2 rfl (lv_at hl 0 rfl) ?_
      refine lv_iconst (v := 4) hx hb dX0_isStuck_3 (by decide) ?_
      refine lv_icmp_ge (tgt := 23) hx hb dX0_isStuck_4 (by decide) (fun c5 => absurd c5 (by decide)) (fun _ => ?_)
      refine lv_lload_n hx hb dX0_isStuck_7 rfl (lv_at hl 1 rfl) ?_
      refine lv_iload_n hx hb dX0_isStuck_8 rfl (lv_at hl 0 rfl) ?_
      refine hm_callS (rest := []) (k := 5) q3_162 q3_90 q1_24 q3_91 nm_X0_canGo rfl hx hb hml hown hts hK hO hS hH hl.1 (c_X0_canGo Γ l t 2 _ ht (by decide)) ⟨Nat.le_of_ble_eq_true rfl, Nat.le_of_ble_eq_true rfl⟩ ⟨Nat.le_of_ble_eq_true rfl, Nat.le_of_ble_eq_true rfl⟩ rfl (Nat.le_of_ble_eq_true rfl) dX0_isStuck_9 (fun v_ f_ H locs hp_ hH hS => ?_)
      obtain ⟨rfl, ef_⟩ := hp_
      rw [ef_] at hH
      clear ef_
      refine W.eq (g2 := F0 m 12 ls [.int (bI (goN t 2))]) rfl ?_
      refine lv_if_eq (tgt := 17) hx hb dX0_isStuck_12 (by decide) (fun c6 => ?_) (fun c6 => ?_)
      · refine lv_iinc (v := 3) (lv' := [(2, .int 3), (0, .long (b5 t))]) hx hb dX0_isStuck_17 hl (k := 0) rfl (by decide) (by decide) rfl (fun ls hl => ?_)
        refine lv_goto (tgt := 2) hx hb dX0_isStuck_20 (by decide) ?_
        refine lv_iload_n hx hb dX0_isStuck_2 rfl (lv_at hl 0 rfl) ?_
        refine lv_iconst (v := 4) hx hb dX0_isStuck_3 (by decide) ?_
        refine lv_icmp_ge (tgt := 23) hx hb dX0_isStuck_4 (by decide) (fun c7 => absurd c7 (by decide)) (fun _ => ?_)
        refine lv_lload_n hx hb dX0_isStuck_7 rfl (lv_at hl 1 rfl) ?_
        refine lv_iload_n hx hb dX0_isStuck_8 rfl (lv_at hl 0 rfl) ?_
        refine hm_callS (rest := []) (k := 5) q3_162 q3_90 q1_24 q3_91 nm_X0_canGo rfl hx hb hml hown hts hK hO hS hH hl.1 (c_X0_canGo Γ l t 3 _ ht (by decide)) ⟨Nat.le_of_ble_eq_true rfl, Nat.le_of_ble_eq_true rfl⟩ ⟨Nat.le_of_ble_eq_true rfl, Nat.le_of_ble_eq_true rfl⟩ rfl (Nat.le_of_ble_eq_true rfl) dX0_isStuck_9 (fun v_ f_ H locs hp_ hH hS => ?_)
        obtain ⟨rfl, ef_⟩ := hp_
        rw [ef_] at hH
        clear ef_
        refine W.eq (g2 := F0 m 12 ls [.int (bI (goN t 3))]) rfl ?_
        refine lv_if_eq (tgt := 17) hx hb dX0_isStuck_12 (by decide) (fun c8 => ?_) (fun c8 => ?_)
        · refine lv_iinc (v := 4) (lv' := [(2, .int 4), (0, .long (b5 t))]) hx hb dX0_isStuck_17 hl (k := 0) rfl (by decide) (by decide) rfl (fun ls hl => ?_)
          refine lv_goto (tgt := 2) hx hb dX0_isStuck_20 (by decide) ?_
          refine lv_iload_n hx hb dX0_isStuck_2 rfl (lv_at hl 0 rfl) ?_
          refine lv_iconst (v := 4) hx hb dX0_isStuck_3 (by decide) ?_
          refine lv_icmp_ge (tgt := 23) hx hb dX0_isStuck_4 (by decide) (fun _ => ?_) (fun c9 => absurd (by decide) c9)
          refine lv_iconst (v := 1) hx hb dX0_isStuck_23 (by decide) ?_
          exact hm_zret hx hb hr rfl hlocks hS hH (pI_of (by unfold ovN; simp [bI, bI_0.mp c2, bI_0.mp c4, bI_0.mp c6, bI_0.mp c8])) (Nat.le_of_ble_eq_true rfl) (Nat.le_of_ble_eq_true rfl) dX0_isStuck_24
        · refine lv_iconst (v := 0) hx hb dX0_isStuck_15 (by decide) ?_
          exact hm_zret hx hb hr rfl hlocks hS hH (pI_of (by unfold ovN; simp [bI, bI_0.mp c2, bI_0.mp c4, bI_0.mp c6, bI_n.mp c8])) (Nat.le_of_ble_eq_true rfl) (Nat.le_of_ble_eq_true rfl) dX0_isStuck_16
      · refine lv_iconst (v := 0) hx hb dX0_isStuck_15 (by decide) ?_
        exact hm_zret hx hb hr rfl hlocks hS hH (pI_of (by unfold ovN; simp [bI, bI_0.mp c2, bI_0.mp c4, bI_n.mp c6])) (Nat.le_of_ble_eq_true rfl) (Nat.le_of_ble_eq_true rfl) dX0_isStuck_16
    · refine lv_iconst (v := 0) hx hb dX0_isStuck_15 (by decide) ?_
      exact hm_zret hx hb hr rfl hlocks hS hH (pI_of (by unfold ovN; simp [bI, bI_0.mp c2, bI_n.mp c4])) (Nat.le_of_ble_eq_true rfl) (Nat.le_of_ble_eq_true rfl) dX0_isStuck_16
  · refine lv_iconst (v := 0) hx hb dX0_isStuck_15 (by decide) ?_
    exact hm_zret hx hb hr rfl hlocks hS hH (pI_of (by unfold ovN; simp [bI, bI_n.mp c2])) (Nat.le_of_ble_eq_true rfl) (Nat.le_of_ble_eq_true rfl) dX0_isStuck_16
