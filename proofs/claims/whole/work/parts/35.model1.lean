/-! the model: its object; boards as it keeps them -/
abbrev eM (r : Nat → Nat) (mth mpl mga mtr mke mro mck mli mdz mgd mhi mmi mfh msh msm mso : Int32) (msp mrf : Int64) : va_E := eR 8 [.ref (r 0), .ref (r 1), .ref (r 2), .ref (r 3), .ref (r 4), .ref (r 5), .ref (r 6), .ref (r 7), .ref (r 8), .ref (r 9), .ref (r 10), .ref (r 11), .ref (r 12), .ref (r 13), .ref (r 14), .ref (r 15), .ref (r 16), .ref (r 17), .ref (r 18), .ref (r 19), .ref (r 20), .ref (r 21), .ref (r 22), .ref (r 23), .ref (r 24), .ref (r 25), .ref (r 26), .ref (r 27), .int mth, .int mpl, .int mga, .int mtr, .int mke, .int mro, .int mck, .int mli, .int mdz, .int mgd, .int mhi, .int mmi, .int mfh, .int msh, .int msm, .int mso, .long msp, .long mrf]
theorem m_sar {n k : Nat} (hn : n < 2 ^ 63) (hk : k < 64) : lN n >>> ((nI k).toInt64 &&& 63) = lN (n / 2 ^ k) := by
  rw [wb_c k hk]
  apply Int64.toInt_inj.mp
  have h2 : n / 2 ^ k ≤ n := Nat.div_le_self _ _
  show ((lN n).toBitVec.sshiftRight ((BitVec.ofNat 64 k).smod 64).toNat).toInt = _
  rw [wb_sm k hk, BitVec.toNat_ofNat, Nat.mod_eq_of_lt (show k < 2 ^ 64 by omega), BitVec.toInt_sshiftRight]
  show (lN n).toInt >>> k = _
  rw [pk_lT hn, pk_lT (by omega), Int.shiftRight_eq_div_pow]
  rfl
theorem m_and15 (n : Nat) : nI n &&& 15 = nI (n % 16) := m_and n 4 (by decide) (by decide)
theorem m_4k (k : Nat) : 4 * nI k = nI (4 * k) := by rw [show (4 : Int32) = nI 4 from rfl, pk_mul]
theorem m_tile4 {t : Nat → Nat} (ht : tl 16 t) {k : Nat} (hk : k < 9) : (b4 t >>> ((4 * nI k).toInt64 &&& 63)).toInt32 &&& 15 = nI (t k) := by
  have h1 := enc4_lt ht
  rw [m_4k]
  unfold b4
  rw [m_sar (by omega) (by omega), lN_i, m_and15, Nat.pow_mul, enc_dig ht hk]
theorem m_d0 : ∀ i, i < 3 → ∀ p, p < 3 → 3 * nI p + nI i = nI (cO 0 i p) := by decide +kernel
theorem m_d1 : ∀ i, i < 3 → ∀ p, p < 3 → 3 * nI i + 2 - nI p = nI (cO 1 i p) := by decide +kernel
theorem m_d2 : ∀ i, i < 3 → ∀ p, p < 3 → 3 * (2 - nI p) + nI i = nI (cO 2 i p) := by decide +kernel
theorem m_d3 : ∀ i, i < 3 → ∀ p, p < 3 → 3 * nI i + nI p = nI (cO 3 i p) := by decide +kernel
theorem m_nxtL {z : Nat} (hz : z < 2 ^ 31) : (((nI z).toInt64 * 1103515245 + 12345) &&& 2147483647).toInt32 = nI (nxt z) := by
  rw [nI_l hz, show (1103515245 : Int64) = lN 1103515245 from rfl, show (12345 : Int64) = lN 12345 from rfl, show (2147483647 : Int64) = lN 2147483647 from rfl, lN_mul, lN_add, wb_and (by omega) (by decide), lN_i, show 2147483647 = 2 ^ 31 - 1 from rfl, Nat.and_two_pow_sub_one_eq_mod]
  rfl
/-- a tile is put where none is; a tile grows by one -/
theorem b4_add {u : Nat → Nat} {k v : Nat} (hk : k < 9) (h0 : u k = 0) : b4 u + lN v <<< ((4 * nI k).toInt64 &&& 63) = b4 (updN u k v) := by
  rw [m_4k, wb_shl v (by omega)]
  unfold b4
  rw [lN_add, enc_upd h0 hk, Nat.pow_mul]
theorem enc_inc {B : Nat} {u : Nat → Nat} {k : Nat} : ∀ {n : Nat}, k < n → enc B (updN u k (u k + 1)) n = enc B u n + B ^ k
  | 0, h => by omega
  | n + 1, h => by
    simp only [enc]
    by_cases q : k = n
    · subst q
      have e : enc B (updN u k (u k + 1)) k = enc B u k := enc_congr (fun i hi => by unfold updN; rw [if_neg (by omega)])
      rw [e, show updN u k (u k + 1) k = u k + 1 from if_pos rfl, Nat.add_mul, Nat.one_mul]
      omega
    · rw [enc_inc (n := n) (by omega), show updN u k (u k + 1) n = u n from if_neg (by omega)]
      omega
theorem b4_inc {u : Nat → Nat} {k v : Nat} (hk : k < 9) (h0 : u k = v) : b4 u + 1 <<< ((4 * nI k).toInt64 &&& 63) = b4 (updN u k (v + 1)) := by
  subst h0
  rw [m_4k, show (1 : Int64) = lN 1 from rfl, wb_shl 1 (by omega)]
  unfold b4
  rw [lN_add, enc_inc hk, Nat.one_mul, Nat.pow_mul]
theorem b4_0 : (0 : Int64) = b4 (fun _ => 0) := by unfold b4; rw [enc_zero]; rfl
theorem goN_4 {t : Nat → Nat} (ht : tl 15 t) {to : Nat} (hto : to < 4) : b4 (pushT t to) = b4 t ↔ goN t to = false := by
  rw [goN_iff, b4_inj (pushT_lt ht hto) (tl_mono ht (by decide))]
set_option maxHeartbeats 4000000 in
set_option maxRecDepth 100000 in
theorem c_X8_tile (Γ : Gm) (l : Launch) (t : Nat → Nat) (k : Nat) (f : Hm) (ht : tl 16 t) (hk : k < 9) : Ct Γ l yX8_tile cX8_tile 3 (some .int) 1 0 0 [.long (b4 t), .int (nI k)] f (pI (nI (t k)) f) := by
  refine Ct_of (by decide +kernel) (Nat.le_of_ble_eq_true rfl) ?_
  intro p e s m args below meth c hx hb hr hml hown hin hlocks hts hH hO hK ls hl
  have hl : lv_has ls 3 [(0, .long (b4 t)), (2, .int (nI k))] := hl
  have hS : va_S (gA Γ) s.heap s.heap [] := va_S.rf
  refine lv_lload_n hx hb dX8_tile_0 rfl (lv_at hl 0 rfl) ?_
  refine lv_iconst (v := 4) hx hb dX8_tile_1 (by decide) ?_
  refine lv_iload_n hx hb dX8_tile_2 rfl (lv_at hl 1 rfl) ?_
  refine lv_imul hx hb dX8_tile_3 ?_
  refine lv_topi (fun v1 ev1 => ?_)
  refine lv_lshr hx hb dX8_tile_4 rfl ?_
  refine lv_topl (fun v2 ev2 => ?_)
  refine lv_l2i hx hb dX8_tile_5 rfl ?_
  refine lv_topi (fun v3 ev3 => ?_)
  refine lv_bipush (v := 15) hx hb dX8_tile_6 (by decide) ?_
  refine lv_iand hx hb dX8_tile_8 ?_
  refine lv_topi (fun v4 ev4 => ?_)
  subst ev4
  subst ev3
  subst ev2
  subst ev1
  exact hm_iret hx hb hr hlocks hS hH (pI_of (m_tile4 ht hk)) (Nat.le_of_ble_eq_true rfl) (Nat.le_of_ble_eq_true rfl) dX8_tile_9
set_option maxHeartbeats 4000000 in
set_option maxRecDepth 100000 in
theorem c_X8_cellOf (Γ : Gm) (l : Launch) (to i p0 : Nat) (f : Hm) (hto : to < 4) (hi : i < 3) (hp0 : p0 < 3) : Ct Γ l yX8_cellOf cX8_cellOf 3 (some .int) 1 0 0 [.int (nI to), .int (nI i), .int (nI p0)] f (pI (nI (cO to i p0)) f) := by
  refine Ct_of (by decide +kernel) (Nat.le_of_ble_eq_true rfl) ?_
  intro p e s m args below meth c hx hb hr hml hown hin hlocks hts hH hO hK ls hl
  have hl : lv_has ls 3 [(0, .int (nI to)), (1, .int (nI i)), (2, .int (nI p0))] := hl
  have hS : va_S (gA Γ) s.heap s.heap [] := va_S.rf
  rcases (by omega : to = 0 ∨ to = 1 ∨ to = 2 ∨ to = 3) with rfl | rfl | rfl | rfl
  · refine lv_iload_n hx hb dX8_cellOf_0 rfl (lv_at hl 0 rfl) ?_
    refine lv_if_ne (tgt := 12) hx hb dX8_cellOf_1 (by decide) (fun c1 => absurd (rfl) c1) (fun _ => ?_)
    refine lv_iconst (v := 3) hx hb dX8_cellOf_4 (by decide) ?_
    refine lv_iload_n hx hb dX8_cellOf_5 rfl (lv_at hl 2 rfl) ?_
    refine lv_imul hx hb dX8_cellOf_6 ?_
    refine lv_topi (fun v2 ev2 => ?_)
    refine lv_iload_n hx hb dX8_cellOf_7 rfl (lv_at hl 1 rfl) ?_
    refine lv_iadd hx hb dX8_cellOf_8 ?_
    refine lv_topi (fun v3 ev3 => ?_)
    refine lv_goto (tgt := 47) hx hb dX8_cellOf_9 (by decide) ?_
    subst ev3
    subst ev2
    exact hm_iret hx hb hr hlocks hS hH (pI_of (m_d0 i hi p0 hp0)) (Nat.le_of_ble_eq_true rfl) (Nat.le_of_ble_eq_true rfl) dX8_cellOf_47
  · refine lv_iload_n hx hb dX8_cellOf_0 rfl (lv_at hl 0 rfl) ?_
    refine lv_if_ne (tgt := 12) hx hb dX8_cellOf_1 (by decide) (fun _ => ?_) (fun c1 => absurd c1 (by decide))
    refine lv_iload_n hx hb dX8_cellOf_12 rfl (lv_at hl 0 rfl) ?_
    refine lv_iconst (v := 1) hx hb dX8_cellOf_13 (by decide) ?_
    refine lv_icmp_ne (tgt := 27) hx hb dX8_cellOf_14 (by decide) (fun c2 => absurd (rfl) c2) (fun _ => ?_)
    refine lv_iconst (v := 3) hx hb dX8_cellOf_17 (by decide) ?_
    refine lv_iload_n hx hb dX8_cellOf_18 rfl (lv_at hl 1 rfl) ?_
    refine lv_imul hx hb dX8_cellOf_19 ?_
    refine lv_topi (fun v3 ev3 => ?_)
    refine lv_iconst (v := 2) hx hb dX8_cellOf_20 (by decide) ?_
    refine lv_iadd hx hb dX8_cellOf_21 ?_
    refine lv_topi (fun v4 ev4 => ?_)
    refine lv_iload_n hx hb dX8_cellOf_22 rfl (lv_at hl 2 rfl) ?_
    refine lv_isub hx hb dX8_cellOf_23 ?_
    refine lv_topi (fun v5 ev5 => ?_)
    refine lv_goto (tgt := 47) hx hb dX8_cellOf_24 (by decide) ?_
    subst ev5
    subst ev4
    subst ev3
    exact hm_iret hx hb hr hlocks hS hH (pI_of (m_d1 i hi p0 hp0)) (Nat.le_of_ble_eq_true rfl) (Nat.le_of_ble_eq_true rfl) dX8_cellOf_47
  · refine lv_iload_n hx hb dX8_cellOf_0 rfl (lv_at hl 0 rfl) ?_
    refine lv_if_ne (tgt := 12) hx hb dX8_cellOf_1 (by decide) (fun _ => ?_) (fun c1 => absurd c1 (by decide))
    refine lv_iload_n hx hb dX8_cellOf_12 rfl (lv_at hl 0 rfl) ?_
    refine lv_iconst (v := 1) hx hb dX8_cellOf_13 (by decide) ?_
    refine lv_icmp_ne (tgt := 27) hx hb dX8_cellOf_14 (by decide) (fun _ => ?_) (fun c2 => absurd c2 (by decide))
    refine lv_iload_n hx hb dX8_cellOf_27 rfl (lv_at hl 0 rfl) ?_
    refine lv_iconst (v := 2) hx hb dX8_cellOf_28 (by decide) ?_
    refine lv_icmp_ne (tgt := 42) hx hb dX8_cellOf_29 (by decide) (fun c3 => absurd (rfl) c3) (fun _ => ?_)
    refine lv_iconst (v := 3) hx hb dX8_cellOf_32 (by decide) ?_
    refine lv_iconst (v := 2) hx hb dX8_cellOf_33 (by decide) ?_
    refine lv_iload_n hx hb dX8_cellOf_34 rfl (lv_at hl 2 rfl) ?_
    refine lv_isub hx hb dX8_cellOf_35 ?_
    refine lv_topi (fun v4 ev4 => ?_)
    refine lv_imul hx hb dX8_cellOf_36 ?_
    refine lv_topi (fun v5 ev5 => ?_)
    refine lv_iload_n hx hb dX8_cellOf_37 rfl (lv_at hl 1 rfl) ?_
    refine lv_iadd hx hb dX8_cellOf_38 ?_
    refine lv_topi (fun v6 ev6 => ?_)
    refine lv_goto (tgt := 47) hx hb dX8_cellOf_39 (by decide) ?_
    subst ev6
    subst ev5
    subst ev4
    exact hm_iret hx hb hr hlocks hS hH (pI_of (m_d2 i hi p0 hp0)) (Nat.le_of_ble_eq_true rfl) (Nat.le_of_ble_eq_true rfl) dX8_cellOf_47
  · refine lv_iload_n hx hb dX8_cellOf_0 rfl (lv_at hl 0 rfl) ?_
    refine lv_if_ne (tgt := 12) hx hb dX8_cellOf_1 (by decide) (fun _ => ?_) (fun c1 => absurd c1 (by decide))
    refine lv_iload_n hx hb dX8_cellOf_12 rfl (lv_at hl 0 rfl) ?_
    refine lv_iconst (v := 1) hx hb dX8_cellOf_13 (by decide) ?_
    refine lv_icmp_ne (tgt := 27) hx hb dX8_cellOf_14 (by decide) (fun _ => ?_) (fun c2 => absurd c2 (by decide))
    refine lv_iload_n hx hb dX8_cellOf_27 rfl (lv_at hl 0 rfl) ?_
    refine lv_iconst (v := 2) hx hb dX8_cellOf_28 (by decide) ?_
    refine lv_icmp_ne (tgt := 42) hx hb dX8_cellOf_29 (by decide) (fun _ => ?_) (fun c3 => absurd c3 (by decide))
    refine lv_iconst (v := 3) hx hb dX8_cellOf_42 (by decide) ?_
    refine lv_iload_n hx hb dX8_cellOf_43 rfl (lv_at hl 1 rfl) ?_
    refine lv_imul hx hb dX8_cellOf_44 ?_
    refine lv_topi (fun v4 ev4 => ?_)
    refine lv_iload_n hx hb dX8_cellOf_45 rfl (lv_at hl 2 rfl) ?_
    refine lv_iadd hx hb dX8_cellOf_46 ?_
    refine lv_topi (fun v5 ev5 => ?_)
    subst ev5
    subst ev4
    exact hm_iret hx hb hr hlocks hS hH (pI_of (m_d3 i hi p0 hp0)) (Nat.le_of_ble_eq_true rfl) (Nat.le_of_ble_eq_true rfl) dX8_cellOf_47
set_option maxHeartbeats 4000000 in
set_option maxRecDepth 100000 in
theorem c_X8_next (Γ : Gm) (l : Launch) (z : Nat) (f : Hm) (hz : z < 2 ^ 31) : Ct Γ l yX8_next cX8_next 1 (some .int) 1 0 0 [.int (nI z)] f (pI (nI (nxt z)) f) := by
  refine Ct_of (by decide +kernel) (Nat.le_of_ble_eq_true rfl) ?_
  intro p e s m args below meth c hx hb hr hml hown hin hlocks hts hH hO hK ls hl
  have hl : lv_has ls 1 [(0, .int (nI z))] := hl
  have hS : va_S (gA Γ) s.heap s.heap [] := va_S.rf
  refine lv_iload_n hx hb dX8_next_0 rfl (lv_at hl 0 rfl) ?_
  refine lv_i2l hx hb dX8_next_1 rfl ?_
  refine lv_topl (fun v1 ev1 => ?_)
  refine lv_ldc2 (v := 1103515245) hx hb hown (hts _ q5_137) dX8_next_2 ?_
  refine lv_lmul hx hb dX8_next_5 ?_
  refine lv_topl (fun v2 ev2 => ?_)
  refine lv_ldc2 (v := 12345) hx hb hown (hts _ q5_138) dX8_next_6 ?_
  refine lv_ladd hx hb dX8_next_9 ?_
  refine lv_topl (fun v3 ev3 => ?_)
  refine lv_ldc2 (v := 2147483647) hx hb hown (hts _ q5_139) dX8_next_10 ?_
  refine lv_land hx hb dX8_next_13 ?_
  refine lv_topl (fun v4 ev4 => ?_)
  refine lv_l2i hx hb dX8_next_14 rfl ?_
  refine lv_topi (fun v5 ev5 => ?_)
  subst ev5
  subst ev4
  subst ev3
  subst ev2
  subst ev1
  exact hm_iret hx hb hr hlocks hS hH (pI_of (m_nxtL hz)) (Nat.le_of_ble_eq_true rfl) (Nat.le_of_ble_eq_true rfl) dX8_next_15
set_option maxHeartbeats 4000000 in
set_option maxRecDepth 100000 in
theorem c_X8_drawn (Γ : Gm) (l : Launch) (m0 : Nat) (r : Nat → Nat) (mth mpl mga mtr mke mro mck mli mdz mgd mhi mmi mfh msh msm mso : Int32) (msp mrf : Int64) (t : Nat → Nat) (z : Nat) (f : Hm) (hm0 : f m0 = some (eM r mth mpl mga mtr mke mro mck mli mdz mgd mhi mmi mfh msh msm mso msp mrf)) (ht : tl 16 t) (hz : z < 2 ^ 31) (hc : cntE t 9 ≠ 0) : Ct Γ l yX8_drawn cX8_drawn 9 (some .long) 2 0 0 [.ref m0, .long (b4 t), .int (nI z)] f (fun v f' => v = some (.long (b4 (drawT t z))) ∧ f' = hm_up f m0 (eM r mth mpl mga mtr mke mro mck mli ((nI (nxt (nxt z)))) mgd mhi mmi mfh msh msm mso msp mrf)) := by
  refine Ct_of (by decide +kernel) (Nat.le_of_ble_eq_true rfl) ?_
  intro p e s m args below meth c hx hb hr hml hown hin hlocks hts hH hO hK ls hl
  have hl : lv_has ls 9 [(0, .ref m0), (1, .long (b4 t)), (3, .int (nI z))] := hl
  have hS : va_S (gA Γ) s.heap s.heap [] := va_S.rf
  have hl9 : nxt z / 65536 % cntE t 9 < cntE t 9 := Nat.mod_lt _ (by omega)
  have hc9 := cntE_le t 9
  have loop2 : ∀ (n_ i k : Nat), i + n_ = 9 → k + cntE t i = nxt z / 65536 % cntE t 9 → ∀ (H : Heap) (locs : List Loc), hm_H Γ (hm_up f m0 (eM r mth mpl mga mtr mke mro mck mli ((nI (nxt (nxt z)))) mgd mhi mmi mfh msh msm mso msp mrf)) H → va_S (gA Γ) s.heap H locs → ∀ ls : Array Slot, lv_has ls 9 [(8, .int (nI i)), (6, .long (lN (newTile z))), (5, .int (nI k)), (0, .ref m0), (1, .long (b4 t)), (3, .int (nI z))] → W p l e (rmk 2 0 0) s m args below meth c H locs 0 0 (MQ below (hm_Q Γ (fun v f' => v = some (.long (b4 (drawT t z))) ∧ f' = hm_up f m0 (eM r mth mpl mga mtr mke mro mck mli ((nI (nxt (nxt z)))) mgd mhi mmi mfh msh msm mso msp mrf))) args s 0 0 (gA Γ)) (F0 m 86 ls []) := by
    intro n_
    induction n_ with
      | zero =>
        intro i k hi hk H locs hH hS ls hl
        have hi3 : i = 9 := by omega
        subst hi3
        omega
      | succ n_ ih =>
        intro i k hi hk H locs hH hS ls hl
        have hi9 : i < 9 := by omega
        refine lv_iload hx hb dX8_drawn_86 (lv_at hl 0 rfl) ?_
        refine lv_bipush (v := 9) hx hb dX8_drawn_88 (by decide) ?_
        refine lv_icmp_ge (tgt := 129) hx hb dX8_drawn_90 (by decide) (fun c1 => absurd c1 (nI_ge (a := i) (b := 9) hi9 (by decide))) (fun _ => ?_)
        refine lv_lload_n hx hb dX8_drawn_93 rfl (lv_at hl 4 rfl) ?_
        refine lv_iload hx hb dX8_drawn_94 (lv_at hl 0 rfl) ?_
        refine hm_callS (rest := []) (k := 1) q5_131 q5_132 q1_9 q5_133 nm_X8_tile rfl hx hb hml hown hts hK hO hS hH hl.1 (c_X8_tile Γ l t i (hm_up f m0 (eM r mth mpl mga mtr mke mro mck mli ((nI (nxt (nxt z)))) mgd mhi mmi mfh msh msm mso msp mrf)) ht hi9) ⟨Nat.le_of_ble_eq_true rfl, Nat.le_of_ble_eq_true rfl⟩ ⟨Nat.le_of_ble_eq_true rfl, Nat.le_of_ble_eq_true rfl⟩ rfl (Nat.le_of_ble_eq_true rfl) dX8_drawn_96 (fun v_ f_ H locs hp_ hH hS => ?_)
        obtain ⟨rfl, ef_⟩ := hp_
        rw [ef_] at hH
        clear ef_
        refine W.eq (g2 := F0 m 99 ls [.int (nI (t i))]) rfl ?_
        refine lv_if_eq (tgt := 105) hx hb dX8_drawn_99 (by decide) (fun c2 => ?_) (fun c2 => ?_)
        · refine lv_iload hx hb dX8_drawn_105 (lv_at hl 2 rfl) ?_
          refine lv_if_ne (tgt := 120) hx hb dX8_drawn_107 (by decide) (fun c3 => ?_) (fun c3 => ?_)
          · refine lv_iinc (v := (nI (k - 1))) (lv' := [(5, .int ((nI (k - 1)))), (8, .int (nI i)), (6, .long (lN (newTile z))), (0, .ref m0), (1, .long (b4 t)), (3, .int (nI z))]) hx hb dX8_drawn_120 hl (k := 2) rfl (by obtain ⟨j, rfl⟩ : ∃ j, k = j + 1 := ⟨k - 1, by have h1 : ¬ k = 0 := (fun q => c3 ((nI_eq (a := k) (b := 0) (by omega) (by omega)).mpr q)); omega⟩; exact pk_m1 j) (by decide) rfl (fun ls hl => ?_)
            refine lv_iinc (v := (nI (i + 1))) (lv' := [(8, .int ((nI (i + 1)))), (5, .int ((nI (k - 1)))), (6, .long (lN (newTile z))), (0, .ref m0), (1, .long (b4 t)), (3, .int (nI z))]) hx hb dX8_drawn_123 hl (k := 1) rfl (nI_1 i) (by decide) rfl (fun ls hl => ?_)
            refine lv_goto (tgt := 86) hx hb dX8_drawn_126 (by decide) ?_
            have h0_ : t i = 0 := (nI_eq (a := t i) (b := 0) (by have := ht i hi9; omega) (by omega)).mp c2
            have h1_ : ¬ k = 0 := (fun qq_ => c3 ((nI_eq (a := k) (b := 0) (by have := ht i hi9; omega) (by omega)).mpr qq_))
            have hs : cntE t (i + 1) = cntE t i + 1 := by show _ + _ = _; rw [if_pos h0_]
            exact ih (i + 1) (k - 1) (by omega) (by omega) H locs hH hS ls (lv_sub hl [0, 2, 1, 3, 4, 5] rfl)
          · refine lv_lload_n hx hb dX8_drawn_110 rfl (lv_at hl 4 rfl) ?_
            refine lv_lload hx hb dX8_drawn_111 (lv_at hl 1 rfl) ?_
            refine lv_iconst (v := 4) hx hb dX8_drawn_113 (by decide) ?_
            refine lv_iload hx hb dX8_drawn_114 (lv_at hl 0 rfl) ?_
            refine lv_imul hx hb dX8_drawn_116 ?_
            refine lv_topi (fun v4 ev4 => ?_)
            refine lv_lshl hx hb dX8_drawn_117 rfl ?_
            refine lv_topl (fun v5 ev5 => ?_)
            refine lv_ladd hx hb dX8_drawn_118 ?_
            refine lv_topl (fun v6 ev6 => ?_)
            subst ev6
            subst ev5
            subst ev4
            exact hm_lret hx hb hr hlocks hS hH (⟨by have h0_ : t i = 0 := (nI_eq (a := t i) (b := 0) (by have := ht i hi9; omega) (by omega)).mp c2; have h1_ : k = 0 := (nI_eq (a := k) (b := 0) (by have := ht i hi9; omega) (by omega)).mp c3; rw [b4_add hi9 h0_]; unfold drawT; rw [if_neg hc, posE_eq hi9 h0_ (by omega)], rfl⟩) (Nat.le_of_ble_eq_true rfl) (Nat.le_of_ble_eq_true rfl) dX8_drawn_119
        · refine lv_goto (tgt := 123) hx hb dX8_drawn_102 (by decide) ?_
          refine lv_iinc (v := (nI (i + 1))) (lv' := [(8, .int ((nI (i + 1)))), (6, .long (lN (newTile z))), (5, .int (nI k)), (0, .ref m0), (1, .long (b4 t)), (3, .int (nI z))]) hx hb dX8_drawn_123 hl (k := 0) rfl (nI_1 i) (by decide) rfl (fun ls hl => ?_)
          refine lv_goto (tgt := 86) hx hb dX8_drawn_126 (by decide) ?_
          have h0_ : ¬ t i = 0 := (fun qq_ => c2 ((nI_eq (a := t i) (b := 0) (by have := ht i hi9; omega) (by omega)).mpr qq_))
          have hs : cntE t (i + 1) = cntE t i := by show _ + _ = _; rw [if_neg h0_]; rfl
          exact ih (i + 1) k (by omega) (by omega) H locs hH hS ls (lv_sub hl [0, 1, 2, 3, 4, 5] rfl)
  have loop1 : ∀ (n_ i : Nat), i + n_ = 9 → ∀ (H : Heap) (locs : List Loc), hm_H Γ f H → va_S (gA Γ) s.heap H locs → ∀ ls : Array Slot, lv_has ls 9 [(5, .int (nI i)), (4, .int (nI (cntE t i))), (0, .ref m0), (1, .long (b4 t)), (3, .int (nI z))] → W p l e (rmk 2 0 0) s m args below meth c H locs 0 0 (MQ below (hm_Q Γ (fun v f' => v = some (.long (b4 (drawT t z))) ∧ f' = hm_up f m0 (eM r mth mpl mga mtr mke mro mck mli ((nI (nxt (nxt z)))) mgd mhi mmi mfh msh msm mso msp mrf))) args s 0 0 (gA Γ)) (F0 m 6 ls []) := by
    intro n_
    induction n_ with
      | zero =>
        intro i hi H locs hH hS ls hl
        have hi3 : i = 9 := by omega
        subst hi3
        refine lv_iload hx hb dX8_drawn_6 (lv_at hl 0 rfl) ?_
        refine lv_bipush (v := 9) hx hb dX8_drawn_8 (by decide) ?_
        refine lv_icmp_ge (tgt := 38) hx hb dX8_drawn_10 (by decide) (fun _ => ?_) (fun c1 => absurd (by decide) c1)
        refine lv_iload_n hx hb dX8_drawn_38 rfl (lv_at hl 4 rfl) ?_
        refine hm_callS (rest := []) (k := 1) q5_134 q5_135 q1_9 q5_136 nm_X8_next rfl hx hb hml hown hts hK hO hS hH hl.1 (c_X8_next Γ l z f hz) ⟨Nat.le_of_ble_eq_true rfl, Nat.le_of_ble_eq_true rfl⟩ ⟨Nat.le_of_ble_eq_true rfl, Nat.le_of_ble_eq_true rfl⟩ rfl (Nat.le_of_ble_eq_true rfl) dX8_drawn_39 (fun v_ f_ H locs hp_ hH hS => ?_)
        obtain ⟨rfl, ef_⟩ := hp_
        rw [ef_] at hH
        clear ef_
        refine W.eq (g2 := F0 m 42 ls [.int (nI (nxt z))]) rfl ?_
        refine lv_ldc (v := 65536) hx hb hown (hts _ q5_140) dX8_drawn_42 ?_
        refine lv_idiv hx hb dX8_drawn_44 (by decide) ?_
        refine lv_topi (fun v2 ev2 => ?_)
        replace ev2 : v2 = nI (nxt z / 65536) := ev2.trans (pk_div (d := 65536) (nxt_lt z) (by decide) (by decide))
        subst ev2
        refine lv_iload hx hb dX8_drawn_45 (lv_at hl 1 rfl) ?_
        refine lv_irem hx hb dX8_drawn_47 (nI_ne0 (by omega) (by omega)) ?_
        refine lv_topi (fun v3 ev3 => ?_)
        replace ev3 : v3 = nI (nxt z / 65536 % cntE t 9) := ev3.trans (m_rem (by have := nxt_lt z; omega) (by omega) (by omega))
        subst ev3
        refine lv_istore (lv' := [(5, .int (nI (nxt z / 65536 % cntE t 9))), (4, .int (nI (cntE t 9))), (0, .ref m0), (1, .long (b4 t)), (3, .int (nI z))]) hx hb dX8_drawn_48 hl (by decide) rfl (fun ls hl => ?_)
        refine lv_aload_n hx hb dX8_drawn_50 rfl (lv_at hl 2 rfl) ?_
        refine lv_iload_n hx hb dX8_drawn_51 rfl (lv_at hl 4 rfl) ?_
        refine hm_callS (rest := [.ref m0]) (k := 1) q5_134 q5_135 q1_9 q5_136 nm_X8_next rfl hx hb hml hown hts hK hO hS hH hl.1 (c_X8_next Γ l z f hz) ⟨Nat.le_of_ble_eq_true rfl, Nat.le_of_ble_eq_true rfl⟩ ⟨Nat.le_of_ble_eq_true rfl, Nat.le_of_ble_eq_true rfl⟩ rfl (Nat.le_of_ble_eq_true rfl) dX8_drawn_52 (fun v_ f_ H locs hp_ hH hS => ?_)
        obtain ⟨rfl, ef_⟩ := hp_
        rw [ef_] at hH
        clear ef_
        refine W.eq (g2 := F0 m 55 ls [.int (nI (nxt z)), .ref m0]) rfl ?_
        refine hm_callS (rest := [.ref m0]) (k := 1) q5_134 q5_135 q1_9 q5_136 nm_X8_next rfl hx hb hml hown hts hK hO hS hH hl.1 (c_X8_next Γ l (nxt z) f (nxt_lt _)) ⟨Nat.le_of_ble_eq_true rfl, Nat.le_of_ble_eq_true rfl⟩ ⟨Nat.le_of_ble_eq_true rfl, Nat.le_of_ble_eq_true rfl⟩ rfl (Nat.le_of_ble_eq_true rfl) dX8_drawn_55 (fun v_ f_ H locs hp_ hH hS => ?_)
        obtain ⟨rfl, ef_⟩ := hp_
        rw [ef_] at hH
        clear ef_
        refine W.eq (g2 := F0 m 58 ls [.int (nI (nxt (nxt z))), .ref m0]) rfl ?_
        refine pf_X8_135 hx hb hts hown hK hO hS hH hm0 rfl (Nat.le_of_ble_eq_true rfl) rfl dX8_drawn_58 (fun H locs hH hS => ?_)
        obtain ⟨f4, ef4⟩ : ∃ zz_, zz_ = hm_up f m0 (eM r mth mpl mga mtr mke mro mck mli (nI (nxt (nxt z))) mgd mhi mmi mfh msh msm mso msp mrf) := ⟨_, rfl⟩
        have hH : hm_H Γ f4 H := by rw [ef4]; exact hH
        have h5 : f4 m0 = some (eM r mth mpl mga mtr mke mro mck mli (nI (nxt (nxt z))) mgd mhi mmi mfh msh msm mso msp mrf) := by rw [ef4]; exact hm_us
        refine lv_aload_n hx hb dX8_drawn_61 rfl (lv_at hl 2 rfl) ?_
        refine gf_X8_135 hx hb hts hown hK hH h5 rfl dX8_drawn_62 ?_
        refine lv_ldc (v := 65536) hx hb hown (hts _ q5_140) dX8_drawn_65 ?_
        refine lv_idiv hx hb dX8_drawn_67 (by decide) ?_
        refine lv_topi (fun v6 ev6 => ?_)
        replace ev6 : v6 = nI (nxt (nxt z) / 65536) := ev6.trans (pk_div (d := 65536) (nxt_lt _) (by decide) (by decide))
        subst ev6
        refine lv_bipush (v := 10) hx hb dX8_drawn_68 (by decide) ?_
        refine lv_irem hx hb dX8_drawn_70 (by decide) ?_
        refine lv_topi (fun v7 ev7 => ?_)
        replace ev7 : v7 = nI (nxt (nxt z) / 65536 % 10) := ev7.trans (m_rem (d := 10) (by have := nxt_lt (nxt z); omega) (by decide) (by decide))
        subst ev7
        refine lv_if_ne (tgt := 80) hx hb dX8_drawn_71 (by decide) (fun c8 => ?_) (fun c8 => ?_)
        · refine lv_lconst (v := 1) hx hb dX8_drawn_80 (by decide) ?_
          refine lv_lstore (lv' := [(6, .long 1), (5, .int (nI (nxt z / 65536 % cntE t 9))), (4, .int (nI (cntE t 9))), (0, .ref m0), (1, .long (b4 t)), (3, .int (nI z))]) hx hb dX8_drawn_81 hl (by decide) rfl (fun ls hl => ?_)
          refine lv_iconst (v := 0) hx hb dX8_drawn_83 (by decide) ?_
          refine lv_istore (lv' := [(8, .int 0), (6, .long 1), (5, .int (nI (nxt z / 65536 % cntE t 9))), (4, .int (nI (cntE t 9))), (0, .ref m0), (1, .long (b4 t)), (3, .int (nI z))]) hx hb dX8_drawn_84 hl (by decide) rfl (fun ls hl => ?_)
          subst ef4
          have h1 : ¬ (nxt (nxt z) / 65536 % 10) = 0 := (fun qq_ => c8 ((nI_eq (a := nxt (nxt z) / 65536 % 10) (b := 0) (by omega) (by omega)).mpr qq_))
          have e6 : (1 : Int64) = lN (newTile z) := by rw [newT_1 h1]; rfl
          rw [e6] at hl
          exact loop2 9 0 (nxt z / 65536 % cntE t 9) rfl (Nat.add_zero _) H locs hH hS ls (lv_sub hl [0, 1, 2, 4, 5, 6] rfl)
        · refine lv_ldc2 (v := 2) hx hb hown (hts _ q5_141) dX8_drawn_74 ?_
          refine lv_goto (tgt := 81) hx hb dX8_drawn_77 (by decide) ?_
          refine lv_lstore (lv' := [(6, .long 2), (5, .int (nI (nxt z / 65536 % cntE t 9))), (4, .int (nI (cntE t 9))), (0, .ref m0), (1, .long (b4 t)), (3, .int (nI z))]) hx hb dX8_drawn_81 hl (by decide) rfl (fun ls hl => ?_)
          refine lv_iconst (v := 0) hx hb dX8_drawn_83 (by decide) ?_
          refine lv_istore (lv' := [(8, .int 0), (6, .long 2), (5, .int (nI (nxt z / 65536 % cntE t 9))), (4, .int (nI (cntE t 9))), (0, .ref m0), (1, .long (b4 t)), (3, .int (nI z))]) hx hb dX8_drawn_84 hl (by decide) rfl (fun ls hl => ?_)
          subst ef4
          have h1 : (nxt (nxt z) / 65536 % 10) = 0 := (nI_eq (a := nxt (nxt z) / 65536 % 10) (b := 0) (by omega) (by omega)).mp c8
          have e6 : (2 : Int64) = lN (newTile z) := by rw [newT_0 h1]; rfl
          rw [e6] at hl
          exact loop2 9 0 (nxt z / 65536 % cntE t 9) rfl (Nat.add_zero _) H locs hH hS ls (lv_sub hl [0, 1, 2, 4, 5, 6] rfl)
      | succ n_ ih =>
        intro i hi H locs hH hS ls hl
        have hi9 : i < 9 := by omega
        refine lv_iload hx hb dX8_drawn_6 (lv_at hl 0 rfl) ?_
        refine lv_bipush (v := 9) hx hb dX8_drawn_8 (by decide) ?_
        refine lv_icmp_ge (tgt := 38) hx hb dX8_drawn_10 (by decide) (fun c1 => absurd c1 (nI_ge (a := i) (b := 9) hi9 (by decide))) (fun _ => ?_)
        refine lv_iload hx hb dX8_drawn_13 (lv_at hl 1 rfl) ?_
        refine lv_lload_n hx hb dX8_drawn_15 rfl (lv_at hl 3 rfl) ?_
        refine lv_iload hx hb dX8_drawn_16 (lv_at hl 0 rfl) ?_
        refine hm_callS (rest := [.int (nI (cntE t i))]) (k := 1) q5_131 q5_132 q1_9 q5_133 nm_X8_tile rfl hx hb hml hown hts hK hO hS hH hl.1 (c_X8_tile Γ l t i f ht hi9) ⟨Nat.le_of_ble_eq_true rfl, Nat.le_of_ble_eq_true rfl⟩ ⟨Nat.le_of_ble_eq_true rfl, Nat.le_of_ble_eq_true rfl⟩ rfl (Nat.le_of_ble_eq_true rfl) dX8_drawn_18 (fun v_ f_ H locs hp_ hH hS => ?_)
        obtain ⟨rfl, ef_⟩ := hp_
        rw [ef_] at hH
        clear ef_
        refine W.eq (g2 := F0 m 21 ls [.int (nI (t i)), .int (nI (cntE t i))]) rfl ?_
        refine lv_if_ne (tgt := 28) hx hb dX8_drawn_21 (by decide) (fun c2 => ?_) (fun c2 => ?_)
        · refine lv_iconst (v := 0) hx hb dX8_drawn_28 (by decide) ?_
          refine lv_iadd hx hb dX8_drawn_29 ?_
          refine lv_topi (fun v3 ev3 => ?_)
          replace ev3 : v3 = (nI (cntE t i + 0)) := ev3.trans (nI_add _ 0)
          subst ev3
          refine lv_istore (lv' := [(4, .int ((nI (cntE t i + 0)))), (5, .int (nI i)), (0, .ref m0), (1, .long (b4 t)), (3, .int (nI z))]) hx hb dX8_drawn_30 hl (by decide) rfl (fun ls hl => ?_)
          refine lv_iinc (v := (nI (i + 1))) (lv' := [(5, .int ((nI (i + 1)))), (4, .int ((nI (cntE t i + 0)))), (0, .ref m0), (1, .long (b4 t)), (3, .int (nI z))]) hx hb dX8_drawn_32 hl (k := 1) rfl (nI_1 i) (by decide) rfl (fun ls hl => ?_)
          refine lv_goto (tgt := 6) hx hb dX8_drawn_35 (by decide) ?_
          have h0_ : ¬ t i = 0 := (fun qq_ => c2 ((nI_eq (a := t i) (b := 0) (by have := ht i hi9; omega) (by omega)).mpr qq_))
          rw [show nI (cntE t i + 0) = nI (cntE t (i + 1)) by show _ = nI (_ + _); rw [if_neg h0_]] at hl
          exact ih (i + 1) (by omega) H locs hH hS ls (lv_sub hl [0, 1, 2, 3, 4] rfl)
        · refine lv_iconst (v := 1) hx hb dX8_drawn_24 (by decide) ?_
          refine lv_goto (tgt := 29) hx hb dX8_drawn_25 (by decide) ?_
          refine lv_iadd hx hb dX8_drawn_29 ?_
          refine lv_topi (fun v4 ev4 => ?_)
          replace ev4 : v4 = (nI (cntE t i + 1)) := ev4.trans (nI_add _ 1)
          subst ev4
          refine lv_istore (lv' := [(4, .int ((nI (cntE t i + 1)))), (5, .int (nI i)), (0, .ref m0), (1, .long (b4 t)), (3, .int (nI z))]) hx hb dX8_drawn_30 hl (by decide) rfl (fun ls hl => ?_)
          refine lv_iinc (v := (nI (i + 1))) (lv' := [(5, .int ((nI (i + 1)))), (4, .int ((nI (cntE t i + 1)))), (0, .ref m0), (1, .long (b4 t)), (3, .int (nI z))]) hx hb dX8_drawn_32 hl (k := 1) rfl (nI_1 i) (by decide) rfl (fun ls hl => ?_)
          refine lv_goto (tgt := 6) hx hb dX8_drawn_35 (by decide) ?_
          have h0_ : t i = 0 := (nI_eq (a := t i) (b := 0) (by have := ht i hi9; omega) (by omega)).mp c2
          rw [show cntE t i + 1 = cntE t (i + 1) by show _ = _ + _; rw [if_pos h0_]] at hl
          exact ih (i + 1) (by omega) H locs hH hS ls (lv_sub hl [0, 1, 2, 3, 4] rfl)
  refine lv_iconst (v := 0) hx hb dX8_drawn_0 (by decide) ?_
  refine lv_istore (lv' := [(4, .int 0), (0, .ref m0), (1, .long (b4 t)), (3, .int (nI z))]) hx hb dX8_drawn_1 hl (by decide) rfl (fun ls hl => ?_)
  refine lv_iconst (v := 0) hx hb dX8_drawn_3 (by decide) ?_
  refine lv_istore (lv' := [(5, .int 0), (4, .int 0), (0, .ref m0), (1, .long (b4 t)), (3, .int (nI z))]) hx hb dX8_drawn_4 hl (by decide) rfl (fun ls hl => ?_)
  exact loop1 9 0 rfl s.heap [] hH hS ls (lv_sub hl [0, 1, 2, 3, 4] rfl)
