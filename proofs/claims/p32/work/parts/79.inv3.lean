/-! what both keep: a hint; the two worlds together -/
section INVh
variable {n : Nat} {K : Nat → EV} {kp : Nat} {ck msh msm mso : Int32} {mf : Nat → Int32} {E : Nat → EV} {cn us : Int32} {so sh sm : Int64} {np : Nat} {mon : Nat → Int32} {ng : Nat} {gs : Nat → GS} {nt : Nat} {ts : Nat → TR} {lim : Int32} {rf sp : Int64} {rr : Nat}
theorem INV.search (h : INV n K kp ck msh msm mso mf E cn us so sh sm np mon ng gs nt ts lim rf sp rr) (hn : n ≤ 512) {t : Nat → Nat} {z d : Nat} (hd : d ≤ 4) (hw : wt t + 4 * d ≤ 4000) : ∃ σ' c', c' ≤ 600 * (n + 1) ∧ RA σ' rr 0 (trM true rr d t z (K, kp, ck, 0, 0)) (trS 64 (nI rr) d t z (E, cn, us, 0, 0)) c' := by
  obtain ⟨hb, hg, hd0, ht, hs, ⟨⟨σ, h1⟩, ⟨c, c1, c2, c3, c4⟩, h2, h3, h4⟩, hr, hm⟩ := h
  have hra : RA σ rr 0 (K, kp, ck, 0, 0) (E, cn, us, 0, 0) c := ⟨h1, c4, c1, c2, h2, hb.2.2.2.2.2, rfl, rfl⟩
  have hk := clk_4 hd
  obtain ⟨σ', c', g1, g2, g3⟩ := tr_rel hb.2.2.2.1 hb.2.2.2.2.1 (t := t) (z := z) hd hw hra (by omega)
  exact ⟨σ', c', by omega, g3⟩
theorem INV.price (h : INV n K kp ck msh msm mso mf E cn us so sh sm np mon ng gs nt ts lim rf sp rr) (hn : n ≤ 512) {t : Nat → Nat} {z d : Nat} (hd : d ≤ 4) (hw : wt t + 4 * d ≤ 4000) : (trM true rr d t z (K, kp, ck, 0, 0)).2.2.2.2 = (trS 64 (nI rr) d t z (E, cn, us, 0, 0)).2.2.2.2 := by
  obtain ⟨σ', c', -, g⟩ := h.search hn (t := t) (z := z) hd hw
  exact g.2.2.2.2.2.2.2
theorem setT_s {ts : Nat → TR} {i : Nat} {y : TR} : setT ts i y i = y := if_pos rfl
theorem setT_n {ts : Nat → TR} {i j : Nat} {y : TR} (h : j ≠ i) : setT ts i y j = ts j := if_neg h
theorem INV.hint (h : INV n K kp ck msh msm mso mf E cn us so sh sm np mon ng gs nt ts lim rf sp rr) (hn : n ≤ 512) {i d : Nat} (hi : i < ng) (hd : d ≤ 4) (hn60 : nt < 60) (hv : (gs i).2.2.2.2.2.2.2.2 = false) (hw : wt (gs i).2.1 ≤ 3900) (hz : (gs i).2.2.1 < 2 ^ 31) {K' : Nat → EV} (he : ∀ j, j < 64 → K' j = K j) (w : Int32) (p : Int64) {Y : GS} (h1 : Y.1 = (gs i).1) (hy2 : Y.2.1 = (gs i).2.1) (hy3 : Y.2.2.1 = (gs i).2.2.1) (h8 : Y.2.2.2.2.2.2.2.1 = (gs i).2.2.2.2.2.2.2.1 + (mxI (trS 64 (nI rr) d (gs i).2.1 (gs i).2.2.1 (E, cn, us, 0, 0)).2.2.2.2 1)) (h9 : Y.2.2.2.2.2.2.2.2 = false) : INV (n + 1) (trM true rr d (gs i).2.1 (gs i).2.2.1 (K', kp, ck, 0, 0)).1 (trM true rr d (gs i).2.1 (gs i).2.2.1 (K', kp, ck, 0, 0)).2.1 (trM true rr d (gs i).2.1 (gs i).2.2.1 (K', kp, ck, 0, 0)).2.2.1 (msh + (trM true rr d (gs i).2.1 (gs i).2.2.1 (K', kp, ck, 0, 0)).2.2.2.1) (msm + (trM true rr d (gs i).2.1 (gs i).2.2.1 (K', kp, ck, 0, 0)).2.2.2.2) (mso + 1) mf (trS 64 (nI rr) d (gs i).2.1 (gs i).2.2.1 (E, cn, us, 0, 0)).1 (trS 64 (nI rr) d (gs i).2.1 (gs i).2.2.1 (E, cn, us, 0, 0)).2.1 (trS 64 (nI rr) d (gs i).2.1 (gs i).2.2.1 (E, cn, us, 0, 0)).2.2.1 (so + 1) (sh + (trS 64 (nI rr) d (gs i).2.1 (gs i).2.2.1 (E, cn, us, 0, 0)).2.2.2.1.toInt64) (sm + (trS 64 (nI rr) d (gs i).2.1 (gs i).2.2.1 (E, cn, us, 0, 0)).2.2.2.2.toInt64) np (upd mon (gs i).1 (mon (gs i).1 - (mxI (trS 64 (nI rr) d (gs i).2.1 (gs i).2.2.1 (E, cn, us, 0, 0)).2.2.2.2 1))) ng (setG gs i Y) (nt + 1) (setT ts nt ((gs i).1, (gs i).2.1, (gs i).2.2.1, w)) lim rf p rr := by
  have hx := h.extm he
  obtain ⟨σ', c', hc', g1, g2, g3, g4, g5, g6, g7, g8⟩ := hx.search hn (t := (gs i).2.1) (z := (gs i).2.2.1) hd (by omega)
  obtain ⟨u, m, f1, f2, f3⟩ := trM_few (cb := true) (rr := rr) (d := d) (t := (gs i).2.1) (z := (gs i).2.2.1) (M := (K', kp, ck, 0, 0))
  have hcn := cN_4 hd
  have f2 : (trM true rr d (gs i).2.1 (gs i).2.2.1 (K', kp, ck, 0, 0)).2.2.2.1 = nI u := by rw [f2]; exact Int32.zero_add _
  have f3 : (trM true rr d (gs i).2.1 (gs i).2.2.1 (K', kp, ck, 0, 0)).2.2.2.2 = nI m := by rw [f3]; exact Int32.zero_add _
  have e7 : (trS 64 (nI rr) d (gs i).2.1 (gs i).2.2.1 (E, cn, us, 0, 0)).2.2.2.1 = nI u := by rw [← f2, g7]; exact (Int32.add_zero _).symm
  have e8 : (trS 64 (nI rr) d (gs i).2.1 (gs i).2.2.1 (E, cn, us, 0, 0)).2.2.2.2 = nI m := by rw [← f3, g8]
  have hmk : mokA rr (trM true rr d (gs i).2.1 (gs i).2.2.1 (K', kp, ck, 0, 0)) := by
    obtain ⟨hb, -, -, -, -, ⟨-, -, -, -, h4⟩, -⟩ := hx
    exact trM_ok hd hz (by omega) ⟨hb.2.2.2.2.2, h4⟩
  have hek : ∀ j, j < 64 → eok ((trS 64 (nI rr) d (gs i).2.1 (gs i).2.2.1 (E, cn, us, 0, 0)).1 j) := by
    obtain ⟨-, -, -, -, -, ⟨-, -, -, h3, -⟩, -⟩ := hx
    exact trS_eok hd hz (by omega) h3
  obtain ⟨hb, hg, hd0, ht, ⟨s1, s2, a, b, s3, s4, s5, s6, s7, s8⟩, hc, hr, hm⟩ := h.mono
  have hgi := hg i hi
  refine ⟨⟨hb.1, hb.2.1, by omega, hb.2.2.2.1, hb.2.2.2.2.1, g6⟩, fun k hk => ?_, fun k hk => ?_, fun k hk => ?_, ⟨?_, ?_, a + u, b + m, by omega, by omega, ?_, ?_, ?_, ?_⟩, ⟨⟨σ', g1⟩, ⟨c', g3, g4, hc', g2⟩, g5, hek, hmk.2⟩, ?_, fun k hk => ?_⟩
  · by_cases q : k = i
    · rw [q, setG_s, h1, hy2, hy3]; exact hgi
    · rw [setG_n q]; exact hg k hk
  · rw [setG_n (fun z => absurd hk (Nat.not_le.mpr (by rw [z]; exact hi)))]; exact hd0 k hk
  · by_cases q : k = nt
    · rw [q, setT_s]; exact ⟨Nat.le_trans hw (by decide), hz, Nat.lt_of_lt_of_le hgi.1 hb.1⟩
    · rw [setT_n q]; exact ht k (Nat.lt_of_le_of_ne (Nat.le_of_lt_succ hk) q)
  · rw [s1]; exact nI_1 nt
  · rw [s2, show (1 : Int64) = lN 1 from rfl, lN_add]
  · rw [s5, f2, nI_add]
  · rw [s6, e7, nI_l (by omega), lN_add]
  · rw [s7, f3, nI_add]
  · rw [s8, e8, nI_l (by omega), lN_add]
  · rw [hr, sumV_pay h9 hv]
  · rw [sumP_pay h1 h8 h9 hv hi]
    by_cases q : k = (gs i).1
    · subst q; rw [updI_s, if_pos rfl, hm _ hk, i3_m]
    · rw [updI_n q, if_neg q, Int32.add_zero, hm _ hk]
end INVh
theorem her_def (p : Int32) (b1 : Int64) (z1 u : Int32) (b : Int64) (z : Int32) : herB (p, b1, z1, u) b z = (decide (b1 = b) && decide (z1 = z)) := rfl
theorem tx_p (p : Int32) (b1 : Int64) (z1 u : Int32) : ((p, b1, z1, u) : TX).1 = p := rfl
theorem tdB_0 {xs : Nat → TX} {b : Int64} {z n v : Int32} : tdB xs b z n v 0 = false := rfl
theorem owB_0 {xs : Nat → TX} {b : Int64} {z n : Int32} : owB xs b z n 0 = false := rfl
theorem tx_u (p : Int32) (b1 : Int64) (z1 u : Int32) : ((p, b1, z1, u) : TX).2.2.2 = u := rfl
theorem fol_t {xs ys : Nat → TX} {b b' : Int64} {z own to : Int32} {k : Nat} (ih : tdB xs b z own to k = tdB ys b' z own to k) (h : herB (xs k) b z = herB (ys k) b' z) (h1 : (xs k).1 = (ys k).1) (h4 : (xs k).2.2.2 = (ys k).2.2.2) : tdB xs b z own to (k + 1) = tdB ys b' z own to (k + 1) := by
  unfold tdB
  rw [ih, h, h1, h4]
theorem fol_o {xs ys : Nat → TX} {b b' : Int64} {z own : Int32} {k : Nat} (ih : owB xs b z own k = owB ys b' z own k) (h : herB (xs k) b z = herB (ys k) b' z) (h1 : (xs k).1 = (ys k).1) : owB xs b z own (k + 1) = owB ys b' z own (k + 1) := by
  unfold owB
  rw [ih, h, h1]
/-- traces say the same on both sides -/
theorem fol_45 {ts : Nat → TR} {t : Nat → Nat} {z : Int32} {own to : Int32} (hw : wt t ≤ 4000) : ∀ {nt : Nat}, TOK nt ts → folB (fun i => tx4 (ts i)) (b4 t) z own to nt = folB (fun i => tx5 (ts i)) (b5 t) z own to nt := by
  intro nt hT
  have her : ∀ i, i < nt → herB (tx4 (ts i)) (b4 t) z = herB (tx5 (ts i)) (b5 t) z := fun i hi => by
    have g : (b4 (ts i).2.1 = b4 t) ↔ (b5 (ts i).2.1 = b5 t) := by
      rw [b4_inj (tl_mono (tl12 (hT i hi).1) (by decide)) (tl_mono (tl12 hw) (by decide)), b5_inj (tl_mono (tl12 (hT i hi).1) (by decide)) (tl_mono (tl12 hw) (by decide))]
    exact (her_def (nI (ts i).1) (b4 (ts i).2.1) (nI (ts i).2.2.1) (ts i).2.2.2 (b4 t) z).trans ((congrArg (fun q => q && decide (nI (ts i).2.2.1 = z)) (decide_eq_decide.mpr g)).trans (her_def (nI (ts i).1) (b5 (ts i).2.1) (nI (ts i).2.2.1) (ts i).2.2.2 (b5 t) z).symm)
  have h1 : ∀ k, (tx4 (ts k)).1 = (tx5 (ts k)).1 := fun k => (tx_p (nI (ts k).1) (b4 (ts k).2.1) (nI (ts k).2.2.1) (ts k).2.2.2).trans (tx_p (nI (ts k).1) (b5 (ts k).2.1) (nI (ts k).2.2.1) (ts k).2.2.2).symm
  have h4 : ∀ k, (tx4 (ts k)).2.2.2 = (tx5 (ts k)).2.2.2 := fun k => (tx_u (nI (ts k).1) (b4 (ts k).2.1) (nI (ts k).2.2.1) (ts k).2.2.2).trans (tx_u (nI (ts k).1) (b5 (ts k).2.1) (nI (ts k).2.2.1) (ts k).2.2.2).symm
  have htd : ∀ k, k ≤ nt → tdB (fun i => tx4 (ts i)) (b4 t) z own to k = tdB (fun i => tx5 (ts i)) (b5 t) z own to k := by
    intro k
    induction k with
    | zero => exact fun _ => tdB_0.trans tdB_0.symm
    | succ k ih => exact fun hk => fol_t (ih (by omega)) (her k (by omega)) (h1 k) (h4 k)
  have how : ∀ k, k ≤ nt → owB (fun i => tx4 (ts i)) (b4 t) z own k = owB (fun i => tx5 (ts i)) (b5 t) z own k := by
    intro k
    induction k with
    | zero => exact fun _ => owB_0.trans owB_0.symm
    | succ k ih => exact fun hk => fol_o (ih (by omega)) (her k (by omega)) (h1 k)
  unfold folB
  rw [htd nt (Nat.le_refl _), how nt (Nat.le_refl _)]
