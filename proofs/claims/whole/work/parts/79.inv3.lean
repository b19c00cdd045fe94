/-! what both keep: a hint; the two worlds together -/
section INVh
variable {n : Nat} {K : Nat → EV} {kp : Nat} {ck msh msm mso : Int32} {mf : Nat → Int32} {E : Nat → EV} {cn us : Int32} {so sh sm : Int64} {np : Nat} {mon : Nat → Int32} {ng : Nat} {gs : Nat → GS} {nt : Nat} {ts : Nat → TR} {lim : Int32} {rf sp : Int64} {rr : Nat}
theorem INV.search (h : INV n K kp ck msh msm mso mf E cn us so sh sm np mon ng gs nt ts lim rf sp rr) (hn : n ≤ 512) {t : Nat → Nat} {z d : Nat} (hd : d ≤ 4) (hw : wt t + 4 * d ≤ 4000) : ∃ σ' c', c' ≤ 600 * (n + 1) ∧ RA σ' rr 0 (trM true rr d t z (K, kp, ck, 0, 0)) (trS 64 (nI rr) d t z (E, cn, us, 0, 0)) c' := by
  obtain ⟨hb, hg, hd0, ht, hs, ⟨⟨σ, h1⟩, ⟨c, c1, c2, c3, c4⟩, h2, h3, h4⟩, hr, hm⟩ := h
  have hra : RA σ rr 0 (K, kp, ck, 0, 0) (E, cn, us, 0, 0) c := ⟨h1, c4, c1, c2, h2, hb.2.2.2.2.2, rfl, rfl⟩
  have hk := clk_4 hd
  obtain ⟨σ', c', g1, g2, g3⟩ := tr_rel hb.2.2.2.1 hb.2.2.2.2.1 (t := t) (z := z) hd hw hra (by omega)
  exact ⟨σ', c', by omega, g3⟩
theorem INV.price (h : INV n K kp ck msh msm mso mf E cn us so sh sm np mon ng gs nt ts lim rf sp rr) (hn : n ≤ 512) {t : Nat → Nat} {z d : Nat} (hd : d ≤ 4) (hw : wt t + 4 * d ≤ 4000) : (trM true rr d t z (K, kp, ck, 0, 0)).2.2.2.2 = (trS 64 (nI rr) d t z (E, cn, us, 0, 0)).2.2.2.2 := by
  obtain ⟨σ', c', -, g⟩ := h.search hn (t := t) (z := z) hd hw
  exact g.2.2.2.2.2.2.2
theorem setT_s {ts : Nat → TR} {i : Nat} {y : TR} : setT ts i y i = y := if_pos rfl
theorem setT_n {ts : Nat → TR} {i j : Nat} {y : TR} (h : j ≠ i) : setT ts i y j = ts j := if_neg h
theorem INV.hint (h : INV n K kp ck msh msm mso mf E cn us so sh sm np mon ng gs nt ts lim rf sp rr) (hn : n ≤ 512) {i d : Nat} (hi : i < ng) (hd : d ≤ 4) (hn60 : nt < 60) (hv : (gs i).2.2.2.2.2.2.2.2 = false) (hw : wt (gs i).2.1 ≤ 3900) (hz : (gs i).2.2.1 < 2 ^ 31) {K' : Nat → EV} (he : ∀ j, j < 64 → K' j = K j) (w : Int32) (p : Int64) {Y : GS} (h1 : Y.1 = (gs i).1) (hy2 : Y.2.1 = (gs i).2.1) (hy3 : Y.2.2.1 = (gs i).2.2.1) (h8 : Y.2.2.2.2.2.2.2.1 = (gs i).2.2.2.2.2.2.2.1 + (mxI (trS 64 (nI rr) d (gs i).2.1 (gs i).2.2.1 (E, cn, us, 0, 0)).2.2.2.2 1)) (h9 : Y.2.2.2.2.2.2.2.2 = false) : INV (n + 1) (trM true rr d (gs i).2.1 (gs i).2.2.1 (K', kp, ck, 0, 0)).1 (trM true rr d (gs i).2.1 (gs i).2.2.1 (K', kp, ck, 0, 0)).2.1 (trM true rr d (gs i).2.1 (gs i).2.2.1 (K', kp, ck, 0, 0)).2.2.1 (msh + (trM true rr d (gs i).2.1 (gs i).2.2.1 (K', kp, ck, 0, 0)).2.2.2.1) (msm + (trM true rr d (gs i).2.1 (gs i).2.2.1 (K', kp, ck, 0, 0)).2.2.2.2) (mso + 1) mf (trS 64 (nI rr) d (gs i).2.1 (gs i).2.2.1 (E, cn, us, 0, 0)).1 (trS 64 (nI rr) d (gs i).2.1 (gs i).2.2.1 (E, cn, us, 0, 0)).2.1 (trS 64 (nI rr) d (gs i).2.1 (gs i).2.2.1 (E, cn, us, 0, 0)).2.2.1 (so + 1) (sh + (trS 64 (nI rr) d (gs i).2.1 (gs i).2.2.1 (E, cn, us, 0, 0)).2.2.2.1.toInt64) (sm + (trS 64 (nI rr) d (gs i).2.1 (gs i).2.2.1 (E, cn, us, 0, 0)).2.2.2.2.toInt64) np (upd mon (gs i).1 (mon (gs i).1 - (mxI (trS 64 (nI rr) d (gs i).2.1 (gs i).2.2.1 (E, cn, us, 0, 0)).2.2.2.2 1))) ng (setG gs i Y) (nt + 1) (setT ts nt ((gs i).1, (gs i).2.1, (gs i).2.2.1, w)) lim rf p rr := by
  have hx := h.extm he
  obtain ⟨σ', c', hc', g1, g2, g3, g4, g5, g6, g7, g8⟩ := hx.search hn (t := (gs i).2.1) (z := (gs i).2.2.1) hd (by omega)
  obtain ⟨u, m, f1, f2, f3⟩ := trM_few (cb := true) (rr := rr) (d := d) (t := (gs i).2.1) (z := (gs i).2.2.1) (M := (K', kp, ck, 0, 0))
  have hcn := cN_4 hd
  have f2 : (trM true rr d (gs i).2.1 (gs i).2.2.1 (K', kp, ck, 0, 0)).2.2.2.1 = nI u := by rw [f2]; exact Int32.zero_add _
  have f3 : (trM true rr d (gs i).2.1 (gs i).2.2.1 (K', kp, ck, 0, 0)).2.2.2.2 = nI m := by rw [f3]; exact Int32.zero_add _
  have e7 : (trS 64 (nI rr) d (gs i).2.1 (gs i).2.2.1 (E, cn, us, 0, 0)).2.2.2.1 = nI u := by rw [← f2, g7]; exact (Int32.add_zero _).symm
  have e8 : (trS 64 (nI rr) d (gs i).2.1 (gs i).2.2.1 (E, cn, us, 0, 0)).2.2.2.2 = nI m := by rw [← f3, g8]
  have hmk : mokA rr (trM true rr d (gs i).2.1 (gs i).2.2.1 (K', kp, ck, 0, 0)) := by
    obtain ⟨hb, -, -, -, -, ⟨-, -, -, -, h4⟩, -⟩ := hx
    exact trM_ok hd hz (by omega) ⟨hb.2.2.2.2.2, h4⟩
  have hek : ∀ j, j < 64 → eok ((trS 64 (nI rr) d (gs i).2.1 (gs i).2.2.1 (E, cn, us, 0, 0)).1 j) := by
    obtain ⟨-, -, -, -, -, ⟨-, -, -, h3, -⟩, -⟩ := hx
    exact trS_eok hd hz (by omega) h3
  obtain ⟨hb, hg, hd0, ht, ⟨s1, s2, a, b, s3, s4, s5, s6, s7, s8⟩, hc, hr, hm⟩ := h.mono
  have hgi := hg i hi
  refine ⟨⟨hb.1, hb.2.1, by omega, hb.2.2.2.1, hb.2.2.2.2.1, g6⟩, fun k hk => ?_, fun k hk => ?_, fun k hk => ?_, ⟨?_, ?_, a + u, b + m, by omega, by omega, ?_, ?_, ?_, ?_⟩, ⟨⟨σ', g1⟩, ⟨c', g3, g4, hc', g2⟩, g5, hek, hmk.2⟩, ?_, fun k hk => ?_⟩
  · by_cases q : k = i
    · rw [q, setG_s, h1, hy2, hy3]; exact hgi
    · rw [setG_n q]; exact hg k hk
  · rw [setG_n (fun z => absurd hk (Nat.not_le.mpr (by rw [z]; exact hi)))]; exact hd0 k hk
  · by_cases q : k = nt
    · rw [q, setT_s]; exact ⟨Nat.le_trans hw (by decide), hz, Nat.lt_of_lt_of_le hgi.1 hb.1⟩
    · rw [setT_n q]; exact ht k (Nat.lt_of_le_of_ne (Nat.le_of_lt_succ hk) q)
  · rw [s1]; exact nI_1 nt
  · rw [s2, show (1 : Int64) = lN 1 from rfl, lN_add]
  · rw [s5, f2, nI_add]
  · rw [s6, e7, nI_l (by omega), lN_add]
  · rw [s7, f3, nI_add]
  · rw [s8, e8, nI_l (by omega), lN_add]
  · rw [hr, sumV_pay h9 hv]
  · rw [sumP_pay h1 h8 h9 hv hi]
    by_cases q : k = (gs i).1
    · subst q; rw [updI_s, if_pos rfl, hm _ hk, i3_m]
    · rw [updI_n q, if_neg q, Int32.add_zero, hm _ hk]
end INVh
theorem her_def (p : Int32) (b1 : Int64) (z1 u : Int32) (b : Int64) (z : Int32) : herB (p, b1, z1, u) b z = (decide (b1 = b) && decide (z1 = z)) := rfl
theorem tx_p (p : Int32) (b1 : Int64) (z1 u : Int32) : ((p, b1, z1, u) : TX).1 = p := rfl
theorem tdB_0 {xs : Nat → TX} {b : Int64} {z n v : Int32} : tdB xs b z n v 0 = false := rfl
theorem owB_0 {xs : Nat → TX} {b : Int64} {z n : Int32} : owB xs b z n 0 = false := rfl
theorem tx_u (p : Int32) (b1 : Int64) (z1 u : Int32) : ((p, b1, z1, u) : TX).2.2.2 = u := rfl
theorem fol_t {xs ys : Nat → TX} {b b' : Int64} {z own to : Int32} {k : Nat} (ih : tdB xs b z own to k = tdB ys b' z own to k) (h : herB (xs k) b z = herB (ys k) b' z) (h1 : (xs k).1 = (ys k).1) (h4 : (xs k).2.2.2 = (ys k).2.2.2) : tdB xs b z own to (k + 1) = tdB ys b' z own to (k + 1) := by
  unfold tdB
  rw [ih, h, h1, h4]
theorem fol_o {xs ys : Nat → TX} {b b' : Int64} {z own : Int32} {k : Nat} (ih : owB xs b z own k = owB ys b' z own k) (h : herB (xs k) b z = herB (ys k) b' z) (h1 : (xs k).1 = (ys k).1) : owB xs b z own (k + 1) = owB ys b' z own (k + 1) := by
  unfold owB
  rw [ih, h, h1]
/-- traces say the same on both sides -/
theorem fol_45 {ts : Nat → TR} {t : Nat → Nat} {z : Int32} {own to : Int32} (hw : wt t ≤ 4000) : ∀ {nt : Nat}, TOK nt ts → folB (fun i => tx4 (ts i)) (b4 t) z own to nt = folB (fun i => tx5 (ts i)) (b5 t) z own to nt := by
  intro nt hT
  have her : ∀ i, i < nt → herB (tx4 (ts i)) (b4 t) z = herB (tx5 (ts i)) (b5 t) z := fun i hi => by
    have g : (b4 (ts i).2.1 = b4 t) ↔ (b5 (ts i).2.1 = b5 t) := by
      rw [b4_inj (tl_mono (tl12 (hT i hi).1) (by decide)) (tl_mono (tl12 hw) (by decide)), b5_inj (tl_mono (tl12 (hT i hi).1) (by decide)) (tl_mono (tl12 hw) (by decide))]
    exact (her_def (nI (ts i).1) (b4 (ts i).2.1) (nI (ts i).2.2.1) (ts i).2.2.2 (b4 t) z).trans ((congrArg (fun q => q && decide (nI (ts i).2.2.1 = z)) (decide_eq_decide.mpr g)).trans (her_def (nI (ts i).1) (b5 (ts i).2.1) (nI (ts i).2.2.1) (ts i).2.2.2 (b5 t) z).symm)
  have h1 : ∀ k, (tx4 (ts k)).1 = (tx5 (ts k)).1 := fun k => (tx_p (nI (ts k).1) (b4 (ts k).2.1) (nI (ts k).2.2.1) (ts k).2.2.2).trans (tx_p (nI (ts k).1) (b5 (ts k).2.1) (nI (ts k).2.2.1) (ts k).2.2.2).symm
  have h4 : ∀ k, (tx4 (ts k)).2.2.2 = (tx5 (ts k)).2.2.2 := fun k => (tx_u (nI (ts k).1) (b4 (ts k).2.1) (nI (ts k).2.2.1) (ts k).2.2.2).trans (tx_u (nI (ts k).1) (b5 (ts k).2.1) (nI (ts k).2.2.1) (ts k).2.2.2).symm
  have htd : ∀ k, k ≤ nt → tdB (fun i => tx4 (ts i)) (b4 t) z own to k = tdB (fun i => tx5 (ts i)) (b5 t) z own to k := by
    intro k
    induction k with
    | zero => exact fun _ => tdB_0.trans tdB_0.symm
    | succ k ih => exact fun hk => fol_t (ih (by omega)) (her k (by omega)) (h1 k) (h4 k)
  have how : ∀ k, k ≤ nt → owB (fun i => tx4 (ts i)) (b4 t) z own k = owB (fun i => tx5 (ts i)) (b5 t) z own k := by
    intro k
    induction k with
    | zero => exact fun _ => owB_0.trans owB_0.symm
    | succ k ih => exact fun hk => fol_o (ih (by omega)) (her k (by omega)) (h1 k)
  unfold folB
  rw [htd nt (Nat.le_refl _), how nt (Nat.le_refl _)]
theorem MR.all1 {Γ : Gm} {f : Hm} {r : Nat → Nat} {mon : Nat → Int32} {gs : Nat → GS} {ts : Nat → TR} {K : Nat → EV} (h : MR Γ f r mon gs ts K) : ∀ k, k < 28 → ∃ c N a, f (r k) = some (.inl (c, N, a)) ∧ N ≠ 1 := by
  obtain ⟨⟨k0, k1, k2, k3, k4, k5, k6⟩, ⟨pb, pz, pd, pn, pe, ph, pg, p0, p1, p2, p3, p4, p5, p6⟩, m0_, ⟨g1, g2, g3, g4, g5, g6, g7, g8, g9⟩, t1, t2, t3, t4⟩ := h
  intro k hk
  rcases (by omega : k = 0 ∨ k = 1 ∨ k = 2 ∨ k = 3 ∨ k = 4 ∨ k = 5 ∨ k = 6 ∨ k = 7 ∨ k = 8 ∨ k = 9 ∨ k = 10 ∨ k = 11 ∨ k = 12 ∨ k = 13 ∨ k = 14 ∨ k = 15 ∨ k = 16 ∨ k = 17 ∨ k = 18 ∨ k = 19 ∨ k = 20 ∨ k = 21 ∨ k = 22 ∨ k = 23 ∨ k = 24 ∨ k = 25 ∨ k = 26 ∨ k = 27) with e | e | e | e | e | e | e | e | e | e | e | e | e | e | e | e | e | e | e | e | e | e | e | e | e | e | e | e <;> subst e
  · exact ⟨_, _, _, m0_, by decide⟩
  · exact ⟨_, _, _, g1, by decide⟩
  · exact ⟨_, _, _, g2, by decide⟩
  · exact ⟨_, _, _, g3, by decide⟩
  · exact ⟨_, _, _, g4, by decide⟩
  · exact ⟨_, _, _, g5, by decide⟩
  · exact ⟨_, _, _, g6, by decide⟩
  · exact ⟨_, _, _, g7, by decide⟩
  · exact ⟨_, _, _, g8, by decide⟩
  · exact ⟨_, _, _, g9, by decide⟩
  · exact ⟨_, _, _, t1, by decide⟩
  · exact ⟨_, _, _, t2, by decide⟩
  · exact ⟨_, _, _, t3, by decide⟩
  · exact ⟨_, _, _, t4, by decide⟩
  · exact ⟨_, _, _, k0, by decide⟩
  · exact ⟨_, _, _, k1, by decide⟩
  · exact ⟨_, _, _, k2, by decide⟩
  · exact ⟨_, _, _, k3, by decide⟩
  · exact ⟨_, _, _, k4, by decide⟩
  · exact ⟨_, _, _, k5, by decide⟩
  · exact ⟨_, _, _, k6, by decide⟩
  · exact ⟨_, _, _, p0, by decide⟩
  · exact ⟨_, _, _, p1, by decide⟩
  · exact ⟨_, _, _, p2, by decide⟩
  · exact ⟨_, _, _, p3, by decide⟩
  · exact ⟨_, _, _, p4, by decide⟩
  · exact ⟨_, _, _, p5, by decide⟩
  · exact ⟨_, _, _, p6, by decide⟩
section JSs
variable {Γ : Gm} {f f' : Hm} {m0 o : Nat} {r : Nat → Nat} {th : Int32} {K : Nat → EV} {kp : Nat} {ck msh msm mso : Int32} {np : Nat} {mon : Nat → Int32} {ng : Nat} {gs : Nat → GS} {nt : Nat} {ts : Nat → TR} {lim : Int32} {rf sp : Int64} {rr : Nat}
/-- a row of one element is none of the model's -/
theorem MW.apart (h : MW Γ f m0 r th K kp ck msh msm mso np mon ng gs nt ts lim rf sp rr) {c : ClassId} {a : _} (ho : f o = some (.inl (c, 1, a))) : ¬ mS m0 r o := by
  obtain ⟨⟨dz, gd, hi, mi, fh, hm⟩, hR⟩ := h
  rintro (z | ⟨k, hk, z⟩)
  · rw [z, hm] at ho; cases ho
  · obtain ⟨c', N, a', h1, h2⟩ := hR.all1 k hk
    rw [z, h1] at ho
    injection ho with ho
    injection ho with ho
    injection ho with _ ho
    injection ho with ho
    exact h2 ho
theorem MW.kpO (h : MW Γ f m0 r th K kp ck msh msm mso np mon ng gs nt ts lim rf sp rr) {c : ClassId} {a : _} (ho : f o = some (.inl (c, 1, a))) (hf : hm_kO o Γ f f') : MW Γ f' m0 r th K kp ck msh msm mso np mon ng gs nt ts lim rf sp rr := by
  have hap := h.apart ho
  obtain ⟨⟨dz, gd, hi, mi, fh, hm⟩, hR⟩ := h
  refine ⟨⟨dz, gd, hi, mi, fh, hf _ _ (fun z => hap (by rw [← z]; exact mS_0)) hm rfl⟩, hR.kpt (fun k hk e he => hf _ _ (fun z => hap (by rw [← z]; exact mS_r hk)) he ?_)⟩
  obtain ⟨x, hx, h2⟩ := hR.all k hk
  rw [he] at hx
  injection hx with hx
  rw [hx, h2]
  rfl
end JSs
/-- the run's state behind n calls -/
def JS (Γ : Gm) (f : Hm) (x0 m0 o oD : Nat) (r : Nat → Nat) (n : Nat) : Prop :=
  ∃ (th : Int32) (K : Nat → EV) (kp : Nat) (ck msh msm mso : Int32) (mf : Nat → Int32) (E : Nat → EV) (cn us : Int32) (so sh sm : Int64) (np : Nat) (mon : Nat → Int32) (ng : Nat) (gs : Nat → GS) (nt : Nat) (ts : Nat → TR) (lim : Int32) (rf sp : Int64) (rr : Nat), CW Γ f x0 mf E cn us so sh sm np mon ng gs nt ts lim rf sp rr ∧ MW Γ f m0 r th K kp ck msh msm mso np mon ng gs nt ts lim rf sp rr ∧ INV n K kp ck msh msm mso mf E cn us so sh sm np mon ng gs nt ts lim rf sp rr ∧ rI r ∧ (∃ g, f o = some (eJ Γ 1 g)) ∧ ∃ g, f oD = some (eF Γ 1 g)
/-- behind a pair of calls: the number thrown is k on both sides, and where it is 0 the answers are alike -/
def RS (Γ : Gm) (f : Hm) (x0 m0 o oD : Nat) (r : Nat → Nat) (n : Nat) (k b : Int32) : Prop :=
  (∃ mpl mga mtr mke mro mck mli mdz mgd mhi mmi mfh msh msm mso : Int32, ∃ msp mrf : Int64, f m0 = some (eM r k mpl mga mtr mke mro mck mli mdz mgd mhi mmi mfh msh msm mso msp mrf)) ∧ (∃ g, f o = some (eJ Γ 1 g) ∧ (k = 0 → g 0 = b.toInt64)) ∧ JS Γ f x0 m0 o oD r n
