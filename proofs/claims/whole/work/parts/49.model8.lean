/-! the model: a game's pins are taken away -/
theorem mix_keep {α : Type} (p : EV → α) {A B : Nat → EV} {i : Nat} (h : ∀ j, p (A j) = p (B j)) : (fun j => p (B j)) = fun j => p (mixE A B i j) := by
  funext j
  unfold mixE
  split
  · exact (h j).symm
  · rfl
def unpK (K : Nat → EV) (g : Nat) : Nat → EV := fun j => setP (K j) ((K j).2.2.2.2.2.2 &&& (1 <<< (nI g &&& 31) ^^^ (-1)))
set_option maxHeartbeats 4000000 in
set_option maxRecDepth 100000 in
theorem c_X8_unpins (Γ : Gm) (l : Launch) (m0 : Nat) (r : Nat → Nat) (mth mpl mga mtr mro mck mli mdz mgd mhi mmi mfh msh msm mso : Int32) (msp mrf : Int64) (kp : Nat) (K : Nat → EV) (g0 : Nat) (f : Hm) (hm0 : f m0 = some (eM r mth mpl mga mtr ((nI kp)) mro mck mli mdz mgd mhi mmi mfh msh msm mso msp mrf)) (hKA : KA Γ f r K) (hkp : kp ≤ 64) (hg0 : g0 < 8) (hrI : rI r) : Ct Γ l yX8_unpins cX8_unpins 4 (some .int) 2 0 0 [.ref m0, .int (nI g0)] f (fun v f' => v = some (.int (nI (cntP (fun j => bt (K j).2.2.2.2.2.2 g0) kp))) ∧ KA Γ f' r (mixE (unpK K g0) K kp) ∧ hm_fr (fun q => q = r 20) f f') := by
  refine Ct_of (by decide +kernel) (Nat.le_of_ble_eq_true rfl) ?_
  intro p e s m args below meth c hx hb hr hml hown hin hlocks hts hH hO hK ls hl
  have hl : lv_has ls 4 [(0, .ref m0), (1, .int (nI g0))] := hl
  have hS : va_S (gA Γ) s.heap s.heap [] := va_S.rf
  obtain ⟨hk0, hk1, hk2, hk3, hk4, hk5, hk6⟩ := id hKA
  have hn20 : ∀ k x, k ≠ 20 → k < 28 → f (r k) = some (.inl x) → ¬ r k = r 20 := fun k x h1 h2 _ => hrI k 20 h2 (by decide) h1
  have loop : ∀ (k_ i : Nat) (f3 : Hm), i + k_ = kp → f3 (r 20) = some (eI Γ 64 (fun j => (mixE (unpK K g0) K i j).2.2.2.2.2.2)) → hm_fr (fun q => q = r 20) f f3 → ∀ (H : Heap) (locs : List Loc), hm_H Γ f3 H → va_S (gA Γ) s.heap H locs → ∀ ls : Array Slot, lv_has ls 4 [(3, .int (nI i)), (2, .int (nI (cntP (fun j => bt (K j).2.2.2.2.2.2 g0) kp))), (0, .ref m0), (1, .int (nI g0))] → W p l e (rmk 2 0 0) s m args below meth c H locs 0 0 (MQ below (hm_Q Γ (fun v f' => v = some (.int (nI (cntP (fun j => bt (K j).2.2.2.2.2.2 g0) kp))) ∧ KA Γ f' r (mixE (unpK K g0) K kp) ∧ hm_fr (fun q => q = r 20) f f')) args s 0 0 (gA Γ)) (F0 m 8 ls []) := by
    intro k_
    induction k_ with
      | zero =>
        intro i f3 hin_ h20 hfr H locs hH hS ls hl
        have hi : i = kp := by omega
        subst hi
        have hm3 := (hfr m0 (hm_ne hm0 hk6 (fun q => by cases q))).trans hm0
        refine lv_iload_n hx hb dX8_unpins_8 rfl (lv_at hl 0 rfl) ?_
        refine lv_aload_n hx hb dX8_unpins_9 rfl (lv_at hl 2 rfl) ?_
        refine gf_X8_169 hx hb hts hown hK hH hm3 rfl dX8_unpins_10 ?_
        refine lv_icmp_ge (tgt := 36) hx hb dX8_unpins_13 (by decide) (fun _ => ?_) (fun c1 => absurd (nI_le (Nat.le_refl _) (by omega)) c1)
        refine lv_iload_n hx hb dX8_unpins_36 rfl (lv_at hl 1 rfl) ?_
        exact hm_iret hx hb hr hlocks hS hH (⟨rfl, ⟨(((hfr _ (hn20 14 _ (by decide) (by decide) hk0)).trans hk0).trans (congrArg some (congrArg (eJ Γ 64) (mix_keep (fun x : EV => x.1) (A := (unpK K g0)) (fun _ => rfl))))), (((hfr _ (hn20 15 _ (by decide) (by decide) hk1)).trans hk1).trans (congrArg some (congrArg (eI Γ 64) (mix_keep (fun x : EV => x.2.1) (A := (unpK K g0)) (fun _ => rfl))))), (((hfr _ (hn20 16 _ (by decide) (by decide) hk2)).trans hk2).trans (congrArg some (congrArg (eI Γ 64) (mix_keep (fun x : EV => x.2.2.1) (A := (unpK K g0)) (fun _ => rfl))))), (((hfr _ (hn20 17 _ (by decide) (by decide) hk3)).trans hk3).trans (congrArg some (congrArg (eI Γ 64) (mix_keep (fun x : EV => x.2.2.2.1) (A := (unpK K g0)) (fun _ => rfl))))), (((hfr _ (hn20 18 _ (by decide) (by decide) hk4)).trans hk4).trans (congrArg some (congrArg (eI Γ 64) (mix_keep (fun x : EV => x.2.2.2.2.1) (A := (unpK K g0)) (fun _ => rfl))))), (((hfr _ (hn20 19 _ (by decide) (by decide) hk5)).trans hk5).trans (congrArg some (congrArg (eI Γ 64) (mix_keep (fun x : EV => x.2.2.2.2.2.1) (A := (unpK K g0)) (fun _ => rfl))))), h20⟩, hfr⟩) (Nat.le_of_ble_eq_true rfl) (Nat.le_of_ble_eq_true rfl) dX8_unpins_37
      | succ k_ ih =>
        intro i f3 hin_ h20 hfr H locs hH hS ls hl
        have hi : i < kp := by omega
        have hm3 := (hfr m0 (hm_ne hm0 hk6 (fun q => by cases q))).trans hm0
        refine lv_iload_n hx hb dX8_unpins_8 rfl (lv_at hl 0 rfl) ?_
        refine lv_aload_n hx hb dX8_unpins_9 rfl (lv_at hl 2 rfl) ?_
        refine gf_X8_169 hx hb hts hown hK hH hm3 rfl dX8_unpins_10 ?_
        refine lv_icmp_ge (tgt := 36) hx hb dX8_unpins_13 (by decide) (fun c1 => absurd c1 (nI_ge hi (by omega))) (fun _ => ?_)
        refine lv_aload_n hx hb dX8_unpins_16 rfl (lv_at hl 2 rfl) ?_
        refine gf_X8_72 hx hb hts hown hK hH hm3 rfl dX8_unpins_17 ?_
        refine lv_iload_n hx hb dX8_unpins_20 rfl (lv_at hl 0 rfl) ?_
        refine lv_dup2_11 hx hb dX8_unpins_21 rfl rfl ?_
        refine hm_iald hx hb hK hH h20 (vp_in_nI (show i < 64 by omega) (by decide)) dX8_unpins_22 ?_
        refine lv_topi (fun v2 ev2 => ?_)
        replace ev2 : v2 = (K i).2.2.2.2.2.2 := ev2.trans (by show (mixE (unpK K g0) K i (nI i).toNatClampNeg).2.2.2.2.2.2 = _; rw [nI_clamp (by omega), mixE_i])
        subst ev2
        refine lv_iconst (v := 1) hx hb dX8_unpins_23 (by decide) ?_
        refine lv_iload_n hx hb dX8_unpins_24 rfl (lv_at hl 3 rfl) ?_
        refine lv_ishl hx hb dX8_unpins_25 ?_
        refine lv_topi (fun v3 ev3 => ?_)
        replace ev3 : v3 = (1 <<< (nI g0 &&& 31)) := ev3.trans (rfl)
        subst ev3
        refine lv_iconst (v := (-1)) hx hb dX8_unpins_26 (by decide) ?_
        refine lv_ixor hx hb dX8_unpins_27 ?_
        refine lv_topi (fun v4 ev4 => ?_)
        replace ev4 : v4 = (1 <<< (nI g0 &&& 31) ^^^ (-1)) := ev4.trans (rfl)
        subst ev4
        refine lv_iand hx hb dX8_unpins_28 ?_
        refine lv_topi (fun v5 ev5 => ?_)
        replace ev5 : v5 = ((K i).2.2.2.2.2.2 &&& (1 <<< (nI g0 &&& 31) ^^^ (-1))) := ev5.trans (rfl)
        subst ev5
        refine hm_iast hx hb hK hO hS hH h20 (vp_in_nI (show i < 64 by omega) (by decide)) dX8_unpins_29 (fun H locs hH hS => ?_)
        rw [nI_clamp (n := i) (by omega)] at hH
        obtain ⟨f6, ef6⟩ : ∃ zz_, zz_ = hm_up f3 ((r 20)) (eI Γ 64 (upd (fun j => (mixE (unpK K g0) K i j).2.2.2.2.2.2) i (((K i).2.2.2.2.2.2 &&& (1 <<< (nI g0 &&& 31) ^^^ (-1)))))) := ⟨_, rfl⟩
        have hH : hm_H Γ f6 H := by rw [ef6]; exact hH
        have h7 : f6 ((r 20)) = some (eI Γ 64 (upd (fun j => (mixE (unpK K g0) K i j).2.2.2.2.2.2) i (((K i).2.2.2.2.2.2 &&& (1 <<< (nI g0 &&& 31) ^^^ (-1)))))) := by rw [ef6]; exact hm_us
        have h8 : f6 m0 = some (eM r mth mpl mga mtr (nI kp) mro mck mli mdz mgd mhi mmi mfh msh msm mso msp mrf) := by rw [ef6]; exact (hm_un (hm_ne hm3 h20 (fun q => by cases q))).trans hm3
        refine lv_iinc (v := (nI (i + 1))) (lv' := [(3, .int ((nI (i + 1)))), (2, .int (nI (cntP (fun j => bt (K j).2.2.2.2.2.2 g0) kp))), (0, .ref m0), (1, .int (nI g0))]) hx hb dX8_unpins_30 hl (k := 0) rfl (nI_1 i) (by decide) rfl (fun ls hl => ?_)
        refine lv_goto (tgt := 8) hx hb dX8_unpins_33 (by decide) ?_
        exact ih (i + 1) f6 (by omega) (h7.trans (congrArg some (congrArg (eI Γ 64) (mix_fun (fun x : EV => x.2.2.2.2.2.2) (unpK K g0) K i rfl)))) (by rw [ef6]; exact hfr.up rfl) H locs hH hS ls (lv_sub hl [0, 1, 2, 3] rfl)
  refine lv_aload_n hx hb dX8_unpins_0 rfl (lv_at hl 0 rfl) ?_
  refine lv_iload_n hx hb dX8_unpins_1 rfl (lv_at hl 1 rfl) ?_
  refine hm_callV (rest := []) (k := 1) q6_29 q6_31 q1_9 q6_32 q0_33 rfl nm_X8_pinsOf rfl hx hb hml hown hts hK hO hS hH hl.1 hm0 (c_X8_pinsOf Γ l m0 r mth mpl mga mtr mro mck mli mdz mgd mhi mmi mfh msh msm mso msp mrf kp K g0 f hm0 hKA hkp hg0) ⟨Nat.le_of_ble_eq_true rfl, Nat.le_of_ble_eq_true rfl⟩ ⟨Nat.le_of_ble_eq_true rfl, Nat.le_of_ble_eq_true rfl⟩ rfl (Nat.le_of_ble_eq_true rfl) dX8_unpins_2 (fun v_ f_ H locs hp_ hH hS => ?_)
  obtain ⟨rfl, ef_⟩ := hp_
  rw [ef_] at hH
  clear ef_
  refine W.eq (g2 := F0 m 5 ls [.int (nI (cntP (fun j => bt (K j).2.2.2.2.2.2 g0) kp))]) rfl ?_
  refine lv_istore_n (lv' := [(2, .int (nI (cntP (fun j => bt (K j).2.2.2.2.2.2 g0) kp))), (0, .ref m0), (1, .int (nI g0))]) hx hb dX8_unpins_5 rfl hl (by decide) rfl (fun ls hl => ?_)
  refine lv_iconst (v := 0) hx hb dX8_unpins_6 (by decide) ?_
  refine lv_istore_n (lv' := [(3, .int 0), (2, .int (nI (cntP (fun j => bt (K j).2.2.2.2.2.2 g0) kp))), (0, .ref m0), (1, .int (nI g0))]) hx hb dX8_unpins_7 rfl hl (by decide) rfl (fun ls hl => ?_)
  exact loop kp 0 f (by omega) (by rw [mixE_0]; exact hk6) hm_fr.rf H locs hH hS ls (lv_sub hl [0, 1, 2, 3] rfl)
