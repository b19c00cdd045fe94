/-! the law's loop -/
theorem and31 (x : Int32) : ∃ j, j < 32 ∧ x &&& 31 = nI j := ⟨x.toBitVec.toNat % 2 ^ 5, Nat.mod_lt _ (by decide), pk_and x 5 (by decide)⟩
theorem end_lt {i L : Nat} (hi : i ≤ 2100) (hL : L ≤ 2048) (h : L < i + 4) : nI L - 4 < nI i := by
  by_cases h4 : 4 ≤ L
  · rw [show (4 : Int32) = nI 4 from rfl, nI_sub_ge (a := L) (b := 4) h4 (by omega)]
    exact nI_lt (by omega) (by omega)
  · have h0 : (0 : Int32) ≤ nI i := nI_pos' (by omega)
    rcases (by omega : L = 0 ∨ L = 1 ∨ L = 2 ∨ L = 3) with rfl | rfl | rfl | rfl
    · exact Int32.lt_of_lt_of_le (by decide : nI 0 - 4 < 0) h0
    · exact Int32.lt_of_lt_of_le (by decide : nI 1 - 4 < 0) h0
    · exact Int32.lt_of_lt_of_le (by decide : nI 2 - 4 < 0) h0
    · exact Int32.lt_of_lt_of_le (by decide : nI 3 - 4 < 0) h0
theorem end_ge {i L : Nat} (hi : i ≤ 2100) (hL : L ≤ 2048) (h : i + 4 ≤ L) : ¬ nI L - 4 < nI i := by
  rw [show (4 : Int32) = nI 4 from rfl, nI_sub_ge (a := L) (b := 4) (by omega) (by omega)]
  exact Int32.not_lt.mpr (nI_le (a := i) (b := L - 4) (by omega) (by omega))
theorem JS.mono {Γ : Gm} {f : Hm} {x0 m0 o oD n : Nat} {r : Nat → Nat} (h : JS Γ f x0 m0 o oD r n) : JS Γ f x0 m0 o oD r (n + 1) := by
  obtain ⟨th, K, kp, ck, msh, msm, mso, mf, E, cn, us, so, sh, sm, np, mon, ng, gs, nt, ts, lim, rf, sp, rr, hC, hM, hI, h2⟩ := h
  exact ⟨th, K, kp, ck, msh, msm, mso, mf, E, cn, us, so, sh, sm, np, mon, ng, gs, nt, ts, lim, rf, sp, rr, hC, hM, hI.mono, h2⟩
set_option maxHeartbeats 4000000 in
set_option maxRecDepth 100000 in
theorem law_loop {p : Program} {l : Launch} {e : Env} {R : Room} {s : State} {m : MethodId} {args : Array Value} {below : List Frame} {meth : Method} {c : Code} {Q : State → Prop} (Γ : Gm) (hx : p.tables.exec = Jvm.exec) (hb : c.code = cL_law) (hml : c.maxLocals = 9) (hown : s.vm.findClass "TileWardenLaw" = some m.cls) (hts : ∀ w ∈ lwG, w.before args s = true) (hK : KK Γ s) (hO : hm_O Γ s.heap) (hst : l.stackTraces = false) {b L : Nat} {xs : Nat → Int32} (hX : va_X b L xs s s.heap) (hbl : b < s.heap.size) (hbA : ¬ gA Γ b) (hRf : 400 ≤ R.frames ∧ 10000 ≤ R.locals) {x0 m0 o oD : Nat} {r : Nat → Nat} (hL : L ≤ 2048) (hcf : 20000 ≤ R.cells ∧ 600000 ≤ R.slots) (HE : ∀ (H : Heap) (locs : List Loc) (cells slots : Nat) (ls : Array Slot), va_S (gA Γ) s.heap H locs → cells ≤ 20000 → slots ≤ 600000 → W p l e R s m args below meth c H locs cells slots Q (F0 m 1759 ls [])) : ∀ (k_ n : Nat) (f : Hm) (H : Heap) (locs : List Loc) (cells slots : Nat) (ls : Array Slot), n + k_ = 513 → JS Γ f x0 m0 o oD r n → hm_H Γ f H → va_S (gA Γ) s.heap H locs → cells ≤ 1000 + 16 * n → slots ≤ 10000 + 700 * n → lv_has ls 9 [(5, .int (nI (4 * n))), (4, .ref oD), (3, .ref o), (2, .ref m0), (1, .ref x0), (0, .ref b)] → W p l e R s m args below meth c H locs cells slots Q (F0 m 28 ls []) := by
  intro k_
  induction k_ with
  | zero =>
    intro n f H locs cells slots ls hn hJ hH hS hc1 hs1 hl
    have hn9 : n = 513 := by omega
    refine lv_iload hx hb dL_law_28 (lv_at hl 0 rfl) ?_
    refine lv_aload_n hx hb dL_law_30 rfl (lv_at hl 5 rfl) ?_
    refine va_slen hx hb hX hbl hbA hS dL_law_31 ?_
    refine W.eq (g2 := F0 m 32 ls [.int (nI L), .int (nI (4 * n))]) rfl ?_
    refine lv_iconst (v := 4) hx hb dL_law_32 (by decide) ?_
    refine lv_isub hx hb dL_law_33 ?_
    refine lv_topi (fun v1 ev1 => ?_)
    replace ev1 : v1 = (nI L - 4) := ev1.trans (rfl)
    subst ev1
    refine lv_icmp_gt (tgt := 1759) hx hb dL_law_34 (by decide) (fun _ => ?_) (fun c2 => absurd (end_lt (by omega) hL (by omega)) c2)
    exact HE H locs cells slots ls hS (by omega) (by omega)
  | succ k_ ih =>
    intro n f H locs cells slots ls hn hJ hH hS hc1 hs1 hl
    by_cases hin : 4 * n + 4 ≤ L
    · have hn5 : n ≤ 511 := by omega
      have hback : ∀ (f2 : Hm) (H : Heap) (locs : List Loc), JS Γ f2 x0 m0 o oD r (n + 1) → hm_H Γ f2 H → va_S (gA Γ) s.heap H locs → ∀ ls : Array Slot, lv_has ls 9 [(5, .int (nI (4 * n))), (4, .ref oD), (3, .ref o), (2, .ref m0), (1, .ref x0), (0, .ref b)] → W p l e R s m args below meth c H locs (cells + 16) (slots + 700) Q (F0 m 1753 ls []) := by
        intro f2 H locs hJ2 hH hS ls hl
        refine lv_iinc (v := (nI (4 * (n + 1)))) (lv' := [(5, .int ((nI (4 * (n + 1))))), (4, .ref oD), (3, .ref o), (2, .ref m0), (1, .ref x0), (0, .ref b)]) hx hb dL_law_1753 hl (k := 0) rfl (by show nI (4 * n) + nI 4 = _; rw [nI_add]; congr 1) (by decide) rfl (fun ls hl => ?_)
        refine lv_goto (tgt := 28) hx hb dL_law_1756 (by decide) ?_
        exact ih (n + 1) f2 H locs (cells + 16) (slots + 700) ls (by omega) hJ2 hH hS (by omega) (by omega) (lv_sub hl [0, 1, 2, 3, 4, 5] rfl)
      refine lv_iload hx hb dL_law_28 (lv_at hl 0 rfl) ?_
      refine lv_aload_n hx hb dL_law_30 rfl (lv_at hl 5 rfl) ?_
      refine va_slen hx hb hX hbl hbA hS dL_law_31 ?_
      refine W.eq (g2 := F0 m 32 ls [.int (nI L), .int (nI (4 * n))]) rfl ?_
      refine lv_iconst (v := 4) hx hb dL_law_32 (by decide) ?_
      refine lv_isub hx hb dL_law_33 ?_
      refine lv_topi (fun v1 ev1 => ?_)
      replace ev1 : v1 = (nI L - 4) := ev1.trans (rfl)
      subst ev1
      refine lv_icmp_gt (tgt := 1759) hx hb dL_law_34 (by decide) (fun c2 => absurd c2 (end_ge (by omega) hL (by omega))) (fun _ => ?_)
      refine lv_aload_n hx hb dL_law_37 rfl (lv_at hl 5 rfl) ?_
      refine lv_iload hx hb dL_law_38 (lv_at hl 0 rfl) ?_
      refine va_sld hx hb hX hbl hbA hS (vp_in_nI (by omega) (by omega)) dL_law_40 ?_
      refine lv_topi (fun a_ ea_ => ?_)
      refine lv_bipush (v := 31) hx hb dL_law_41 (by decide) ?_
      refine lv_iand hx hb dL_law_43 ?_
      refine lv_topi (fun v3 ev3 => ?_)
      replace ev3 : v3 = (a_ &&& 31) := ev3.trans (rfl)
      subst ev3
      obtain ⟨j, hj, ej⟩ := and31 a_
      rw [ej]
      rcases (by omega : j = 0 ∨ j = 1 ∨ j = 2 ∨ j = 3 ∨ j = 4 ∨ j = 5 ∨ j = 6 ∨ j = 7 ∨ j = 8 ∨ j = 9 ∨ j = 10 ∨ j = 11 ∨ j = 12 ∨ j = 13 ∨ j = 14 ∨ j = 15 ∨ j = 16 ∨ j = 17 ∨ j = 18 ∨ j = 19 ∨ j = 20 ∨ j = 21 ∨ j = 22 ∨ j = 23 ∨ j = 24 ∨ j = 25 ∨ j = 26 ∨ j = 27 ∨ j = 28 ∨ j = 29 ∨ j = 30 ∨ j = 31) with rfl | rfl | rfl | rfl | rfl | rfl | rfl | rfl | rfl | rfl | rfl | rfl | rfl | rfl | rfl | rfl | rfl | rfl | rfl | rfl | rfl | rfl | rfl | rfl | rfl | rfl | rfl | rfl | rfl | rfl | rfl | rfl
      · refine lv_tableIn (off := 132) (tgt := 176) hx hb dL_law_44 (by decide) (by decide) (by decide) (by decide) ?_
        exact cs_addPlayer Γ hx hb hml hown hts hK hO hst hX hbl hbA hRf (i := 4 * n) ⟨by omega, by omega⟩ hJ hn5 hin hL hH hS ls (lv_sub hl [0, 1, 2, 3, 4, 5] rfl) hback
      · refine lv_tableIn (off := 188) (tgt := 232) hx hb dL_law_44 (by decide) (by decide) (by decide) (by decide) ?_
        exact cs_open Γ hx hb hml hown hts hK hO hst hX hbl hbA hRf (i := 4 * n) ⟨by omega, by omega⟩ hJ hn5 hin hL hH hS ls (lv_sub hl [0, 1, 2, 3, 4, 5] rfl) hback
      · refine lv_tableIn (off := 256) (tgt := 300) hx hb dL_law_44 (by decide) (by decide) (by decide) (by decide) ?_
        exact cs_push Γ hx hb hml hown hts hK hO hst hX hbl hbA hRf (i := 4 * n) ⟨by omega, by omega⟩ hJ hn5 hin hL hH hS ls (lv_sub hl [0, 1, 2, 3, 4, 5] rfl) hback
      · refine lv_tableIn (off := 324) (tgt := 368) hx hb dL_law_44 (by decide) (by decide) (by decide) (by decide) ?_
        exact cs_at Γ hx hb hml hown hts hK hO hst hX hbl hbA hRf (i := 4 * n) ⟨by omega, by omega⟩ hJ hn5 hin hL hH hS ls (lv_sub hl [0, 1, 2, 3, 4, 5] rfl) hback
      · refine lv_tableIn (off := 404) (tgt := 448) hx hb dL_law_44 (by decide) (by decide) (by decide) (by decide) ?_
        exact cs_score Γ hx hb hml hown hts hK hO hst hX hbl hbA hRf (i := 4 * n) ⟨by omega, by omega⟩ hJ hn5 hin hL hH hS ls (lv_sub hl [0, 1, 2, 3, 4, 5] rfl) hback
      · refine lv_tableIn (off := 460) (tgt := 504) hx hb dL_law_44 (by decide) (by decide) (by decide) (by decide) ?_
        exact cs_pushes Γ hx hb hml hown hts hK hO hst hX hbl hbA hRf (i := 4 * n) ⟨by omega, by omega⟩ hJ hn5 hin hL hH hS ls (lv_sub hl [0, 1, 2, 3, 4, 5] rfl) hback
      · refine lv_tableIn (off := 516) (tgt := 560) hx hb dL_law_44 (by decide) (by decide) (by decide) (by decide) ?_
        exact cs_canPush Γ hx hb hml hown hts hK hO hst hX hbl hbA hRf (i := 4 * n) ⟨by omega, by omega⟩ hJ hn5 hin hL hH hS ls (lv_sub hl [0, 1, 2, 3, 4, 5] rfl) hback
      · refine lv_tableIn (off := 591) (tgt := 635) hx hb dL_law_44 (by decide) (by decide) (by decide) (by decide) ?_
        exact cs_isOver Γ hx hb hml hown hts hK hO hst hX hbl hbA hRf (i := 4 * n) ⟨by omega, by omega⟩ hJ hn5 hin hL hH hS ls (lv_sub hl [0, 1, 2, 3, 4, 5] rfl) hback
      · refine lv_tableIn (off := 654) (tgt := 698) hx hb dL_law_44 (by decide) (by decide) (by decide) (by decide) ?_
        exact cs_price Γ hx hb hml hown hts hK hO hst hX hbl hbA hRf (i := 4 * n) ⟨by omega, by omega⟩ hJ hn5 hin hL hH hS ls (lv_sub hl [0, 1, 2, 3, 4, 5] rfl) hback
      · refine lv_tableIn (off := 722) (tgt := 766) hx hb dL_law_44 (by decide) (by decide) (by decide) (by decide) ?_
        exact cs_hint Γ hx hb hml hown hts hK hO hst hX hbl hbA hRf (i := 4 * n) ⟨by omega, by omega⟩ hJ hn5 hin hL hH hS ls (lv_sub hl [0, 1, 2, 3, 4, 5] rfl) hback
      · refine lv_tableIn (off := 790) (tgt := 834) hx hb dL_law_44 (by decide) (by decide) (by decide) (by decide) ?_
        exact cs_worth Γ hx hb hml hown hts hK hO hst hX hbl hbA hRf (i := 4 * n) ⟨by omega, by omega⟩ hJ hn5 hin hL hH hS ls (lv_sub hl [0, 1, 2, 3, 4, 5] rfl) hback
      · refine lv_tableIn (off := 858) (tgt := 902) hx hb dL_law_44 (by decide) (by decide) (by decide) (by decide) ?_
        exact cs_money Γ hx hb hml hown hts hK hO hst hX hbl hbA hRf (i := 4 * n) ⟨by omega, by omega⟩ hJ hn5 hin hL hH hS ls (lv_sub hl [0, 1, 2, 3, 4, 5] rfl) hback
      · refine lv_tableIn (off := 914) (tgt := 958) hx hb dL_law_44 (by decide) (by decide) (by decide) (by decide) ?_
        exact cs_setRoom Γ hx hb hml hown hts hK hO hst hX hbl hbA hRf (i := 4 * n) ⟨by omega, by omega⟩ hJ hn5 hin hL hH hS ls (lv_sub hl [0, 1, 2, 3, 4, 5] rfl) hback
      · refine lv_tableIn (off := 970) (tgt := 1014) hx hb dL_law_44 (by decide) (by decide) (by decide) (by decide) ?_
        exact cs_entries Γ hx hb hml hown hts hK hO hst hX hbl hbA hRf (i := 4 * n) ⟨by omega, by omega⟩ hJ hn5 hin hL hH hS ls (lv_sub hl [0, 1, 2, 3, 4, 5] rfl) hback
      · refine lv_tableIn (off := 983) (tgt := 1027) hx hb dL_law_44 (by decide) (by decide) (by decide) (by decide) ?_
        exact cs_isCached Γ hx hb hml hown hts hK hO hst hX hbl hbA hRf (i := 4 * n) ⟨by omega, by omega⟩ hJ hn5 hin hL hH hS ls (lv_sub hl [0, 1, 2, 3, 4, 5] rfl) hback
      · refine lv_tableIn (off := 1058) (tgt := 1102) hx hb dL_law_44 (by decide) (by decide) (by decide) (by decide) ?_
        exact cs_pin Γ hx hb hml hown hts hK hO hst hX hbl hbA hRf (i := 4 * n) ⟨by omega, by omega⟩ hJ hn5 hin hL hH hS ls (lv_sub hl [0, 1, 2, 3, 4, 5] rfl) hback
      · refine lv_tableIn (off := 1126) (tgt := 1170) hx hb dL_law_44 (by decide) (by decide) (by decide) (by decide) ?_
        exact cs_unpin Γ hx hb hml hown hts hK hO hst hX hbl hbA hRf (i := 4 * n) ⟨by omega, by omega⟩ hJ hn5 hin hL hH hS ls (lv_sub hl [0, 1, 2, 3, 4, 5] rfl) hback
      · refine lv_tableIn (off := 1182) (tgt := 1226) hx hb dL_law_44 (by decide) (by decide) (by decide) (by decide) ?_
        exact cs_pinned Γ hx hb hml hown hts hK hO hst hX hbl hbA hRf (i := 4 * n) ⟨by omega, by omega⟩ hJ hn5 hin hL hH hS ls (lv_sub hl [0, 1, 2, 3, 4, 5] rfl) hback
      · refine lv_tableIn (off := 1195) (tgt := 1239) hx hb dL_law_44 (by decide) (by decide) (by decide) (by decide) ?_
        exact cs_follows Γ hx hb hml hown hts hK hO hst hX hbl hbA hRf (i := 4 * n) ⟨by omega, by omega⟩ hJ hn5 hin hL hH hS ls (lv_sub hl [0, 1, 2, 3, 4, 5] rfl) hback
      · refine lv_tableIn (off := 1251) (tgt := 1295) hx hb dL_law_44 (by decide) (by decide) (by decide) (by decide) ?_
        exact cs_setLimit Γ hx hb hml hown hts hK hO hst hX hbl hbA hRf (i := 4 * n) ⟨by omega, by omega⟩ hJ hn5 hin hL hH hS ls (lv_sub hl [0, 1, 2, 3, 4, 5] rfl) hback
      · refine lv_tableIn (off := 1307) (tgt := 1351) hx hb dL_law_44 (by decide) (by decide) (by decide) (by decide) ?_
        exact cs_judge Γ hx hb hml hown hts hK hO hst hX hbl hbA hRf (i := 4 * n) ⟨by omega, by omega⟩ hJ hn5 hin hL hH hS ls (lv_sub hl [0, 1, 2, 3, 4, 5] rfl) hback
      · refine lv_tableIn (off := 1363) (tgt := 1407) hx hb dL_law_44 (by decide) (by decide) (by decide) (by decide) ?_
        exact cs_isVoid Γ hx hb hml hown hts hK hO hst hX hbl hbA hRf (i := 4 * n) ⟨by omega, by omega⟩ hJ hn5 hin hL hH hS ls (lv_sub hl [0, 1, 2, 3, 4, 5] rfl) hback
      · refine lv_tableIn (off := 1426) (tgt := 1470) hx hb dL_law_44 (by decide) (by decide) (by decide) (by decide) ?_
        exact cs_traces Γ hx hb hml hown hts hK hO hst hX hbl hbA hRf (i := 4 * n) ⟨by omega, by omega⟩ hJ hn5 hin hL hH hS ls (lv_sub hl [0, 1, 2, 3, 4, 5] rfl) hback
      · refine lv_tableIn (off := 1439) (tgt := 1483) hx hb dL_law_44 (by decide) (by decide) (by decide) (by decide) ?_
        exact cs_playerOf Γ hx hb hml hown hts hK hO hst hX hbl hbA hRf (i := 4 * n) ⟨by omega, by omega⟩ hJ hn5 hin hL hH hS ls (lv_sub hl [0, 1, 2, 3, 4, 5] rfl) hback
      · refine lv_tableIn (off := 1495) (tgt := 1539) hx hb dL_law_44 (by decide) (by decide) (by decide) (by decide) ?_
        exact cs_pushOf Γ hx hb hml hown hts hK hO hst hX hbl hbA hRf (i := 4 * n) ⟨by omega, by omega⟩ hJ hn5 hin hL hH hS ls (lv_sub hl [0, 1, 2, 3, 4, 5] rfl) hback
      · refine lv_tableIn (off := 1551) (tgt := 1595) hx hb dL_law_44 (by decide) (by decide) (by decide) (by decide) ?_
        exact cs_refunds Γ hx hb hml hown hts hK hO hst hX hbl hbA hRf (i := 4 * n) ⟨by omega, by omega⟩ hJ hn5 hin hL hH hS ls (lv_sub hl [0, 1, 2, 3, 4, 5] rfl) hback
      · refine lv_tableIn (off := 1565) (tgt := 1609) hx hb dL_law_44 (by decide) (by decide) (by decide) (by decide) ?_
        exact cs_hitShare Γ hx hb hml hown hts hK hO hst hX hbl hbA hRf (i := 4 * n) ⟨by omega, by omega⟩ hJ hn5 hin hL hH hS ls (lv_sub hl [0, 1, 2, 3, 4, 5] rfl) hback
      · refine lv_tableIn (off := 1631) (tgt := 1675) hx hb dL_law_44 (by decide) (by decide) (by decide) (by decide) ?_
        exact cs_meanPrice Γ hx hb hml hown hts hK hO hst hX hbl hbA hRf (i := 4 * n) ⟨by omega, by omega⟩ hJ hn5 hin hL hH hS ls (lv_sub hl [0, 1, 2, 3, 4, 5] rfl) hback
      · refine lv_tableIn (off := 1696) (tgt := 1740) hx hb dL_law_44 (by decide) (by decide) (by decide) (by decide) ?_
        exact cs_isSound Γ hx hb hml hown hts hK hO hst hX hbl hbA hRf (i := 4 * n) ⟨by omega, by omega⟩ hJ hn5 hin hL hH hS ls (lv_sub hl [0, 1, 2, 3, 4, 5] rfl) hback
      · refine lv_tableOut (tgt := 1753) hx hb dL_law_44 (by decide) (by decide) ?_
        refine W.widen (k := cells + 16) (n := slots + 700) (by omega) (by omega) ?_
        exact hback f H locs hJ.mono hH hS ls (lv_sub hl [0, 1, 2, 3, 4, 5] rfl)
      · refine lv_tableOut (tgt := 1753) hx hb dL_law_44 (by decide) (by decide) ?_
        refine W.widen (k := cells + 16) (n := slots + 700) (by omega) (by omega) ?_
        exact hback f H locs hJ.mono hH hS ls (lv_sub hl [0, 1, 2, 3, 4, 5] rfl)
      · refine lv_tableOut (tgt := 1753) hx hb dL_law_44 (by decide) (by decide) ?_
        refine W.widen (k := cells + 16) (n := slots + 700) (by omega) (by omega) ?_
        exact hback f H locs hJ.mono hH hS ls (lv_sub hl [0, 1, 2, 3, 4, 5] rfl)
    · refine lv_iload hx hb dL_law_28 (lv_at hl 0 rfl) ?_
      refine lv_aload_n hx hb dL_law_30 rfl (lv_at hl 5 rfl) ?_
      refine va_slen hx hb hX hbl hbA hS dL_law_31 ?_
      refine W.eq (g2 := F0 m 32 ls [.int (nI L), .int (nI (4 * n))]) rfl ?_
      refine lv_iconst (v := 4) hx hb dL_law_32 (by decide) ?_
      refine lv_isub hx hb dL_law_33 ?_
      refine lv_topi (fun v1 ev1 => ?_)
      replace ev1 : v1 = (nI L - 4) := ev1.trans (rfl)
      subst ev1
      refine lv_icmp_gt (tgt := 1759) hx hb dL_law_34 (by decide) (fun _ => ?_) (fun c2 => absurd (end_lt (by omega) hL (by omega)) c2)
      exact HE H locs cells slots ls hS (by omega) (by omega)
