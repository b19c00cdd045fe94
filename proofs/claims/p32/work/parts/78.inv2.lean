/-! what both keep, call by call -/
theorem RelS.extK {σ : Nat → Nat} {n kp : Nat} {K K' E : Nat → EV} (h : RelS σ n kp K E) (he : ∀ a, a < kp → K' a = K a) : RelS σ n kp K' E := h.map (fun x => x) rfl (fun a ha => he a ha) (fun _ _ => rfl)
theorem KInv.extK {kp c : Nat} {K K' : Nat → EV} (h : KInv kp K c) (he : ∀ a, a < kp → K' a = K a) : KInv kp K' c := h.map (fun x => x) (fun a ha => he a ha)
theorem cnt_bt {σ : Nat → Nat} {n kp g : Nat} {K E : Nat → EV} (h : RelS σ n kp K E) : cntP (fun j => bt (E j).2.2.2.2.2.2 g) n = cntP (fun j => bt (K j).2.2.2.2.2.2 g) kp := by
  obtain ⟨h1, h2, h3, h4⟩ := h
  rw [cnt_rel (kp := kp) (n := n) (σ := σ) (Q := fun j => bt (E j).2.2.2.2.2.2 g) (fun a ha => (h1 a ha).1) h2 (fun i hi hq => h3 i hi (fun z => by
    have e := h4 i hi z
    have hq' : bt (E i).2.2.2.2.2.2 g = true := hq
    rw [e, b_0] at hq'
    cases hq'))]
  exact cntP_congr (fun a ha => by
    show bt (E (σ a)).2.2.2.2.2.2 g = bt (K a).2.2.2.2.2.2 g
    rw [(h1 a ha).2.2.1])
theorem mok_setP {x : EV} {p : Int32} (h : mok x) : mok (setP x p) := h
theorem EVr.setP {x y : EV} (h : EVr x y) (p : Int32) : EVr (setP x p) (setP y p) := ⟨h.1, by show (x.2.1, x.2.2.1, x.2.2.2.1, x.2.2.2.2.1, x.2.2.2.2.2.1, p) = (y.2.1, y.2.2.1, y.2.2.2.1, y.2.2.2.2.1, y.2.2.2.2.2.1, p); rw [h.2.1], h.2.2⟩
theorem wt_new (z : Nat) : wt (newB z) ≤ 8 := by
  have h1 := drawT_w (fun _ => 0) z
  have h2 := drawT_w (drawT (fun _ => 0) z) (nxt (nxt z))
  have h0 : wt (fun _ => 0) = 0 := by decide
  unfold newB
  omega
section INVt
variable {n : Nat} {K : Nat → EV} {kp : Nat} {ck msh msm mso : Int32} {mf : Nat → Int32} {E : Nat → EV} {cn us : Int32} {so sh sm : Int64} {np : Nat} {mon : Nat → Int32} {ng : Nat} {gs : Nat → GS} {nt : Nat} {ts : Nat → TR} {lim : Int32} {rf sp : Int64} {rr : Nat}
theorem INV.addPlayer (h : INV n K kp ck msh msm mso mf E cn us so sh sm np mon ng gs nt ts lim rf sp rr) (hp : np < 4) (v : Int32) : INV (n + 1) K kp ck msh msm mso (upd mf np v) E cn us so sh sm (np + 1) (upd mon np v) ng gs nt ts lim rf sp rr := by
  obtain ⟨hb, hg, hd, ht, hs, hc, hr, hm⟩ := h.mono
  refine ⟨⟨by omega, hb.2⟩, fun i hi => ⟨by have := (hg i hi).1; omega, (hg i hi).2⟩, hd, ht, hs, hc, hr, fun i hi => ?_⟩
  by_cases q : i = np
  · subst q
    rw [updI_s, updI_s, sumP_none (fun k hk => by have := (hg k hk).1; omega), Int32.sub_zero]
  · rw [updI_n q, updI_n q]
    exact hm i (by omega)
theorem INV.newG (h : INV n K kp ck msh msm mso mf E cn us so sh sm np mon ng gs nt ts lim rf sp rr) (hng : ng < 8) {j z : Nat} (hj : j < np) : INV (n + 1) K kp ck msh msm mso mf E cn us so sh sm np mon (ng + 1) (setG gs ng (j, newB z, newZ z, 0, 0, 0, 0, 0, false)) nt ts lim rf sp rr := by
  obtain ⟨hb, hg, hd, ht, hs, hc, hr, hm⟩ := h.mono
  refine ⟨⟨hb.1, by omega, hb.2.2⟩, fun i hi => ?_, fun i hi => ?_, ht, hs, hc, ?_, fun i hi => ?_⟩
  · by_cases q : i = ng
    · subst q; rw [setG_s]; exact ⟨hj, by have := wt_new z; show wt (newB z) ≤ _; omega, nxt_lt _⟩
    · rw [setG_n q]; exact hg i (by omega)
  · rw [setG_n (by omega)]; exact hd i (by omega)
  · rw [hr]
    show _ = sumV _ ng + _
    rw [setG_s, if_neg (fun z => by cases z), Int64.add_zero, sumV_congr (gs := gs) (gs' := setG gs ng _) (fun k hk => by rw [setG_lt (Nat.le_refl _) k hk]; exact ⟨rfl, rfl⟩)]
  · rw [hm i hi]
    congr 1
    show _ = if _ then _ else _
    rw [setG_s, sumP_congr (gs := gs) (gs' := setG gs ng _) (fun k hk => by rw [setG_lt (Nat.le_refl _) k hk]; exact ⟨rfl, rfl, rfl⟩)]
    split
    · exact (Int32.add_zero _).symm
    · rfl
theorem INV.setY (h : INV n K kp ck msh msm mso mf E cn us so sh sm np mon ng gs nt ts lim rf sp rr) {i : Nat} (hi : i < ng) {Y : GS} (h1 : Y.1 = (gs i).1) (hw : wt Y.2.1 ≤ wt (gs i).2.1 + 4) (hz : Y.2.2.1 < 2 ^ 31) (h8 : Y.2.2.2.2.2.2.2.1 = (gs i).2.2.2.2.2.2.2.1) (h9 : Y.2.2.2.2.2.2.2.2 = (gs i).2.2.2.2.2.2.2.2) : INV (n + 1) K kp ck msh msm mso mf E cn us so sh sm np mon ng (setG gs i Y) nt ts lim rf sp rr := by
  have hsm : ∀ k, (setG gs i Y k).1 = (gs k).1 ∧ (setG gs i Y k).2.2.2.2.2.2.2.1 = (gs k).2.2.2.2.2.2.2.1 ∧ (setG gs i Y k).2.2.2.2.2.2.2.2 = (gs k).2.2.2.2.2.2.2.2 := fun k => by
    by_cases q : k = i
    · rw [q, setG_s]; exact ⟨h1, h8, h9⟩
    · rw [setG_n q]; exact ⟨rfl, rfl, rfl⟩
  have hgi := h.2.1
  obtain ⟨hb, hg, hd, ht, hs, hc, hr, hm⟩ := h.mono
  refine ⟨hb, fun k hk => ?_, fun k hk => ?_, ht, hs, hc, ?_, fun k hk => ?_⟩
  · by_cases q : k = i
    · rw [q, setG_s, h1]; exact ⟨(hg i hi).1, Nat.le_trans hw (Nat.add_le_add_right (hgi i hi).2.1 4), hz⟩
    · rw [setG_n q]; exact hg k hk
  · rw [setG_n (fun z => absurd hk (Nat.not_le.mpr (by rw [z]; exact hi)))]; exact hd k hk
  · rw [hr]; exact (sumV_congr (fun k _ => (hsm k).2)).symm
  · rw [hm k hk, sumP_congr (fun k _ => hsm k)]
theorem INV.limit (h : INV n K kp ck msh msm mso mf E cn us so sh sm np mon ng gs nt ts lim rf sp rr) (v : Int32) : INV (n + 1) K kp ck msh msm mso mf E cn us so sh sm np mon ng gs nt ts v rf sp rr := by
  obtain ⟨hb, hg, hd, ht, hs, hc, hr, hm⟩ := h.mono
  exact ⟨hb, hg, hd, ht, hs, hc, hr, hm⟩
theorem INV.ext (h : INV n K kp ck msh msm mso mf E cn us so sh sm np mon ng gs nt ts lim rf sp rr) {K' : Nat → EV} (he : ∀ j, j < 64 → K' j = K j) : INV (n + 1) K' kp ck msh msm mso mf E cn us so sh sm np mon ng gs nt ts lim rf sp rr := by
  obtain ⟨hb, hg, hd, ht, hs, ⟨⟨σ, h1⟩, ⟨c, c1, c2, c3, c4⟩, h2, h3, h4⟩, hr, hm⟩ := h.mono
  have hk : kp ≤ 64 := by omega
  exact ⟨hb, hg, hd, ht, hs, ⟨⟨σ, h1.extK (fun a ha => he a (by omega))⟩, ⟨c, c1, c2, c3, c4.extK (fun a ha => he a (by omega))⟩, h2, h3, fun a ha => by rw [he a (by omega)]; exact h4 a ha⟩, hr, hm⟩
theorem INV.extm (h : INV n K kp ck msh msm mso mf E cn us so sh sm np mon ng gs nt ts lim rf sp rr) {K' : Nat → EV} (he : ∀ j, j < 64 → K' j = K j) : INV n K' kp ck msh msm mso mf E cn us so sh sm np mon ng gs nt ts lim rf sp rr := by
  obtain ⟨hb, hg, hd, ht, hs, ⟨⟨σ, h1⟩, ⟨c, c1, c2, c3, c4⟩, h2, h3, h4⟩, hr, hm⟩ := h
  have hk : kp ≤ 64 := by omega
  exact ⟨hb, hg, hd, ht, hs, ⟨⟨σ, h1.extK (fun a ha => he a (by omega))⟩, ⟨c, c1, c2, c3, c4.extK (fun a ha => he a (by omega))⟩, h2, h3, fun a ha => by rw [he a (by omega)]; exact h4 a ha⟩, hr, hm⟩
/-- finds side by side -/
theorem INV.find (h : INV n K kp ck msh msm mso mf E cn us so sh sm np mon ng gs nt ts lim rf sp rr) {t : Nat → Nat} {z d : Nat} (hw : wt t ≤ 4000) (hd1 : 1 ≤ d) (hd4 : d ≤ 4) :
    (fstP (fun j => isFor (K j) (b4 t) (nI z) (nI d)) kp = none ∧ fstP (fun j => isFor (E j) (b5 t) (nI z) (nI d)) 64 = none) ∨ ∃ a b, a < kp ∧ b < 64 ∧ fstP (fun j => isFor (K j) (b4 t) (nI z) (nI d)) kp = some a ∧ fstP (fun j => isFor (E j) (b5 t) (nI z) (nI d)) 64 = some b ∧ ∀ g, INV (n + 1) (pinK K (some a) g) kp ck msh msm mso mf (pinE E (some b) g) cn us so sh sm np mon ng gs nt ts lim rf sp rr := by
  obtain ⟨hb, hg, hd, ht, hs, ⟨⟨σ, h1⟩, ⟨c, c1, c2, c3, c4⟩, h2, h3, h4⟩, hr, hm⟩ := h.mono
  rcases h1.find c4.2.2 (t := t) (z := nI z) (d := nI d) hw (nI_ne0 (by omega) (by omega)) with q | ⟨a, ha, hf, q1, q2⟩
  · exact Or.inl q
  · refine Or.inr ⟨a, σ a, ha, (h1.1 a ha).1, q1, q2, fun g => ?_⟩
    have hev := (h1.1 a ha).2
    have hp : (K a).2.2.2.2.2.2 = (E (σ a)).2.2.2.2.2.2 := by rw [hev.2.1]
    refine ⟨hb, hg, hd, ht, hs, ⟨⟨σ, ?_⟩, ⟨c, c1, c2, c3, ?_⟩, h2, eok_upd h3 (eok_setP (h3 _ (h1.1 a ha).1)), fun k hk => ?_⟩, hr, hm⟩
    · have := h1.upd ha (hev.setP ((K a).2.2.2.2.2.2 ||| (1 <<< (nI g &&& 31))))
      show RelS σ 64 kp (setK K a (setP (K a) ((K a).2.2.2.2.2.2 ||| (1 <<< (nI g &&& 31))))) (updE E (σ a) (setP (E (σ a)) ((E (σ a)).2.2.2.2.2.2 ||| (1 <<< (nI g &&& 31)))))
      rw [← hp]
      exact this
    · exact c4.keep rfl rfl rfl rfl
    · show mok (setK K a _ k)
      by_cases q : k = a
      · rw [q, setK_s]; exact mok_setP (h4 a ha)
      · rw [setK_n q]; exact h4 k hk
theorem mix_lt {A B : Nat → EV} {i k : Nat} (h : k < i) : mixE A B i k = A k := if_pos h
theorem unp0 (g : Nat) : (0 : Int32) &&& (1 <<< (nI g &&& 31) ^^^ (-1)) = 0 := Int32.zero_and
theorem INV.unpinC (h : INV n K kp ck msh msm mso mf E cn us so sh sm np mon ng gs nt ts lim rf sp rr) (g : Nat) : (∃ σ, RelS σ 64 kp (mixE (unpK K g) K kp) (unpK E g)) ∧ (∃ c, ck = nI c ∧ us = nI c ∧ c ≤ 600 * (n + 1) ∧ KInv kp (mixE (unpK K g) K kp) c) ∧ cn = nI kp ∧ (∀ j, j < 64 → eok (unpK E g j)) ∧ ∀ a, a < kp → mok (mixE (unpK K g) K kp a) := by
  obtain ⟨hb, hg, hd, ht, hs, ⟨⟨σ, h1⟩, ⟨c, c1, c2, c3, c4⟩, h2, h3, h4⟩, hr, hm⟩ := h.mono
  refine ⟨⟨σ, h1.map (fun x => x &&& (1 <<< (nI g &&& 31) ^^^ (-1))) (unp0 g) (fun a ha => mix_lt ha) (fun _ _ => rfl)⟩, ⟨c, c1, c2, c3, c4.map (fun x => x &&& (1 <<< (nI g &&& 31) ^^^ (-1))) (fun a ha => mix_lt ha)⟩, h2, fun j hj => eok_setP (h3 j hj), fun a ha => ?_⟩
  rw [mix_lt ha]
  exact mok_setP (h4 a ha)
theorem INV.unpin (h : INV n K kp ck msh msm mso mf E cn us so sh sm np mon ng gs nt ts lim rf sp rr) (g : Nat) : INV (n + 1) (mixE (unpK K g) K kp) kp ck msh msm mso mf (unpK E g) cn us so sh sm np mon ng gs nt ts lim rf sp rr := by
  have hc' := h.unpinC g
  obtain ⟨hb, hg, hd, ht, hs, hc, hr, hm⟩ := h.mono
  exact ⟨hb, hg, hd, ht, hs, hc', hr, hm⟩
theorem INV.room (h : INV n K kp ck msh msm mso mf E cn us so sh sm np mon ng gs nt ts lim rf sp rr) {q : Nat} (hq1 : 1 ≤ q) (hq : q ≤ 64) (hp : cntP (pnB K) kp ≤ q) : (dropMK (kp - q) (K, kp)).2 = kp - (kp - q) ∧ (dropK 64 (kp - q) (E, nI kp)).2 = nI (kp - (kp - q)) ∧ INV (n + 1) (dropMK (kp - q) (K, kp)).1 (dropMK (kp - q) (K, kp)).2 ck msh msm mso mf (dropK 64 (kp - q) (E, nI kp)).1 (dropK 64 (kp - q) (E, nI kp)).2 us so sh sm np mon ng gs nt ts lim rf sp q := by
  obtain ⟨hb, hg, hd, ht, hs, ⟨⟨σ, h1⟩, ⟨c, c1, c2, c3, c4⟩, h2, h3, h4⟩, hr, hm⟩ := h.mono
  have hk : kp ≤ 64 := by omega
  by_cases hle : kp ≤ q
  · have e0 : kp - q = 0 := by omega
    rw [e0]
    exact ⟨rfl, rfl, ⟨hb.1, hb.2.1, hb.2.2.1, hq1, hq, hle⟩, hg, hd, ht, hs, ⟨⟨σ, h1⟩, ⟨c, c1, c2, c3, c4⟩, rfl, h3, h4⟩, hr, hm⟩
  · obtain ⟨σ', d1, d2, d3, d4, d5, d6⟩ := drop_rel (rr := q) h1 c4 (k := kp - q) hk (by omega) hp h3 h4
    refine ⟨d3, d4, ⟨hb.1, hb.2.1, hb.2.2.1, hq1, hq, by rw [d3]; omega⟩, hg, hd, ht, hs, ?_, hr, hm⟩
    rw [d3, d4]
    exact ⟨⟨σ', d1⟩, ⟨c, c1, c2, c3, d2⟩, rfl, d5, d6⟩
theorem INV.judge (h : INV n K kp ck msh msm mso mf E cn us so sh sm np mon ng gs nt ts lim rf sp rr) {i : Nat} (hi : i < ng) (hv : (gs i).2.2.2.2.2.2.2.2 = false) : INV (n + 1) (mixE (unpK K i) K kp) kp ck msh msm mso mf (unpK E i) cn us so sh sm np (upd mon (gs i).1 (mon (gs i).1 + (gs i).2.2.2.2.2.2.2.1)) ng (setG gs i ((gs i).1, (gs i).2.1, (gs i).2.2.1, (gs i).2.2.2.1, (gs i).2.2.2.2.1, (gs i).2.2.2.2.2.1, (gs i).2.2.2.2.2.2.1, (gs i).2.2.2.2.2.2.2.1, true)) nt ts lim (rf + (gs i).2.2.2.2.2.2.2.1.toInt64) sp rr := by
  have hc' := h.unpinC i
  obtain ⟨hb, hg, hd, ht, hs, hc, hr, hm⟩ := h.mono
  refine ⟨hb, fun k hk => ?_, fun k hk => ?_, ht, hs, hc', ?_, fun k hk => ?_⟩
  · by_cases q : k = i
    · subst q; rw [setG_s]; exact hg k hk
    · rw [setG_n q]; exact hg k hk
  · rw [setG_n (by omega)]; exact hd k hk
  · rw [hr]; exact (sumV_void (gs := gs) (i := i) (y := ((gs i).1, (gs i).2.1, (gs i).2.2.1, (gs i).2.2.2.1, (gs i).2.2.2.2.1, (gs i).2.2.2.2.2.1, (gs i).2.2.2.2.2.2.1, (gs i).2.2.2.2.2.2.2.1, true)) rfl rfl hv hi).symm
  · rw [sumP_void (gs := gs) (i := i) (y := ((gs i).1, (gs i).2.1, (gs i).2.2.1, (gs i).2.2.2.1, (gs i).2.2.2.2.1, (gs i).2.2.2.2.2.1, (gs i).2.2.2.2.2.2.1, (gs i).2.2.2.2.2.2.2.1, true)) rfl rfl hv hi]
    by_cases q : k = (gs i).1
    · subst q; rw [updI_s, if_pos rfl, hm _ hk, i3_p]
    · rw [updI_n q, if_neg q, Int32.sub_zero, hm _ hk]
end INVt

