/-! TileWarden: its calls over the class's world -/
def inL : List (String × Int32) → String → Int32 → Prop
  | [], _, _ => False
  | q :: t, E, k => (q.1 = E ∧ q.2 = k) ∨ inL t E k
def cY (cs : List (String × Int32)) (k : Int32) (Γ : Gm) (f : Hm) (O : Hm → Prop) : String → Hm → Prop := fun E f' => k ≠ 0 ∧ inL cs E k ∧ O f' ∧ hm_kd kM Γ f f'
theorem inR_yes {i : Nat} (h1 : 1 ≤ i) (h4 : i ≤ 4) : inR (nI i) 1 4 = true := by
  unfold inR
  rw [decide_eq_true (show (1 : Int32) ≤ nI i from nI_le (a := 1) (b := i) h1 (by omega)), decide_eq_true (show nI i ≤ (4 : Int32) from nI_le (a := i) (b := 4) h4 (by decide))]
  rfl
theorem inR_yes0 {i : Nat} (h4 : i ≤ 4) : inR (nI i) 0 4 = true := by
  unfold inR
  rw [decide_eq_true (show (0 : Int32) ≤ nI i from nI_le (a := 0) (b := i) (Nat.zero_le _) (by omega)), decide_eq_true (show nI i ≤ (4 : Int32) from nI_le (a := i) (b := 4) h4 (by decide))]
  rfl
theorem inR_no {v : Int32} (h : ∀ i, 1 ≤ i → i ≤ 4 → v ≠ nI i) : inR v 1 4 = false := by
  cases hq : inR v 1 4 with
  | false => rfl
  | true => obtain ⟨d, ⟨h1, h2⟩, e⟩ := dep_inR hq; exact absurd e (h d h1 h2)
theorem inR_no0 {v : Int32} (h : ∀ i, 0 ≤ i → i ≤ 4 → v ≠ nI i) : inR v 0 4 = false := by
  cases hq : inR v 0 4 with
  | false => rfl
  | true =>
    unfold inR at hq
    obtain ⟨h1, h2⟩ := (Bool.and_eq_true _ _).mp hq
    obtain ⟨j, hj, e⟩ := nI_of (Int32.not_lt.mpr (of_decide_eq_true h1))
    exact absurd e (h j (Nat.zero_le _) ((nI_leI (b := 4) hj (by decide)).mp (by rw [← e]; exact of_decide_eq_true h2)))
set_option maxHeartbeats 4000000 in
set_option maxRecDepth 100000 in
theorem t_X7_score (Γ : Gm) (l : Launch) (x0 : Nat) (mf : Nat → Int32) (E : Nat → EV) (cn us : Int32) (so sh sm : Int64) (np : Nat) (mon : Nat → Int32) (ng : Nat) (gs : Nat → GS) (nt : Nat) (ts : Nat → TR) (lim : Int32) (rf sp : Int64) (rr : Nat) (v0 : Int32) (f : Hm) (hst : l.stackTraces = false) (hC : CW Γ f x0 mf E cn us so sh sm np mon ng gs nt ts lim rf sp rr) (hnp : np ≤ 4) (hng : ng ≤ 8) (hnt : nt ≤ 60) (hr1 : 1 ≤ rr) (hrr : rr ≤ 64) (hgs : GOK np ng gs) : Cx Γ l yX7_score cX7_score 2 (some .int) 6 1 6 [.ref x0, .int v0] f (cP (if inB v0 (nI ng) then 0 else 1) ((gs (ix v0)).2.2.2.1) Γ f (fun f' => CW Γ f' x0 mf E cn us so sh sm np mon ng gs nt ts lim rf sp rr)) (cY [("java/lang/IndexOutOfBoundsException", 1)] (if inB v0 (nI ng) then 0 else 1) Γ f (fun f' => CW Γ f' x0 mf E cn us so sh sm np mon ng gs nt ts lim rf sp rr)) := by
  refine Cx_of (by decide +kernel) (Nat.le_of_ble_eq_true rfl) ?_
  intro p e s m args below meth c hx hb hr hml hown hin hlocks hout hts hH hO hK ls hl
  have hl0 := hl
  have hl : lv_has ls 2 [(0, .ref x0), (1, .int v0)] := hl
  have hS : va_S (gA Γ) s.heap s.heap [] := va_S.rf
  obtain ⟨lp, lg, lt, ca, tr, pl, hCL, hCD⟩ := id hC
  obtain ⟨hx0, aP, cp_, P, aG, cg_, G, aT, ct_, T, ⟨hLP, hcP, hP, hPj⟩, ⟨hLG, hcG, hG, hGj⟩, ⟨hLT, hcT, hT⟩, ⟨hpg, hpt, hgt⟩, hPG, hPT, hGT⟩ := id hCL
  obtain ⟨⟨moP, hlP⟩, -⟩ := id hLP
  obtain ⟨⟨moG, hlG⟩, -⟩ := id hLG
  obtain ⟨⟨moT, hlT⟩, -⟩ := id hLT
  refine lv_aload_n hx hb dX7_score_0 rfl (lv_at hl 0 rfl) ?_
  refine lv_iload_n hx hb dX7_score_1 rfl (lv_at hl 1 rfl) ?_
  refine hm_xV (rest := []) (k := 4) q3_80 q3_82 q1_1 q3_83 q0_5 rfl nm_X7_findGame rfl hx hb hml hown hts hK hO hS hH hl.1 hx0 hout hlocks (c_findGame Γ l x0 lp lg lt ca tr pl lim rf so sp sh sm aG cg_ ng G v0 f hst hx0 hLG (by omega) (by omega) (fun i hi => ⟨_, hG i hi⟩)) (fun E f' h_ => by obtain ⟨rfl, hno, rfl⟩ := h_; have hb0 := inB_no (by omega) hno; exact ⟨by rw [hb0]; exact (show (1 : Int32) ≠ 0 by decide), by rw [hb0]; exact (Or.inl ⟨rfl, rfl⟩), hC, hm_kd.rf⟩) ⟨Nat.le_of_ble_eq_true rfl, Nat.le_of_ble_eq_true rfl⟩ ⟨Nat.le_of_ble_eq_true rfl, Nat.le_of_ble_eq_true rfl⟩ ⟨Nat.le_of_ble_eq_true rfl, Nat.le_of_ble_eq_true rfl⟩ rfl (Nat.le_of_ble_eq_true rfl) dX7_score_2 (fun v_ f_ H locs hp_ hH hS => ?_)
  obtain ⟨i, hi, rfl, rfl, ef_⟩ := hp_
  rw [ef_] at hH
  clear ef_
  refine W.eq (g2 := F0 m 5 ls [.ref ((G i))]) rfl ?_
  have hb1 := inB_yes (n := ng) (by omega) hi
  have hix : ix (nI i) = i := ix_nI (by omega)
  have hGi := hG i hi
  obtain ⟨hgo, hgw, hgz⟩ := hgs i hi
  have hi8 : i < 8 := by omega
  have ht31 : tl 31 (gs i).2.1 := tl31 (by omega)
  refine gf_X7_144 hx hb hts hown hK hH hGi rfl dX7_score_5 ?_
  exact vx_ret (hm_iret hx hb hr hlocks hS hH (⟨by rw [hb1]; (try rw [hix]); rfl, by rw [hix], hC, hm_kd.rf⟩) (Nat.le_of_ble_eq_true rfl) (Nat.le_of_ble_eq_true rfl) dX7_score_8)
set_option maxHeartbeats 4000000 in
set_option maxRecDepth 100000 in
theorem t_X7_pushes (Γ : Gm) (l : Launch) (x0 : Nat) (mf : Nat → Int32) (E : Nat → EV) (cn us : Int32) (so sh sm : Int64) (np : Nat) (mon : Nat → Int32) (ng : Nat) (gs : Nat → GS) (nt : Nat) (ts : Nat → TR) (lim : Int32) (rf sp : Int64) (rr : Nat) (v0 : Int32) (f : Hm) (hst : l.stackTraces = false) (hC : CW Γ f x0 mf E cn us so sh sm np mon ng gs nt ts lim rf sp rr) (hnp : np ≤ 4) (hng : ng ≤ 8) (hnt : nt ≤ 60) (hr1 : 1 ≤ rr) (hrr : rr ≤ 64) (hgs : GOK np ng gs) : Cx Γ l yX7_pushes cX7_pushes 2 (some .int) 6 1 6 [.ref x0, .int v0] f (cP (if inB v0 (nI ng) then 0 else 1) ((gs (ix v0)).2.2.2.2.1) Γ f (fun f' => CW Γ f' x0 mf E cn us so sh sm np mon ng gs nt ts lim rf sp rr)) (cY [("java/lang/IndexOutOfBoundsException", 1)] (if inB v0 (nI ng) then 0 else 1) Γ f (fun f' => CW Γ f' x0 mf E cn us so sh sm np mon ng gs nt ts lim rf sp rr)) := by
  refine Cx_of (by decide +kernel) (Nat.le_of_ble_eq_true rfl) ?_
  intro p e s m args below meth c hx hb hr hml hown hin hlocks hout hts hH hO hK ls hl
  have hl0 := hl
  have hl : lv_has ls 2 [(0, .ref x0), (1, .int v0)] := hl
  have hS : va_S (gA Γ) s.heap s.heap [] := va_S.rf
  obtain ⟨lp, lg, lt, ca, tr, pl, hCL, hCD⟩ := id hC
  obtain ⟨hx0, aP, cp_, P, aG, cg_, G, aT, ct_, T, ⟨hLP, hcP, hP, hPj⟩, ⟨hLG, hcG, hG, hGj⟩, ⟨hLT, hcT, hT⟩, ⟨hpg, hpt, hgt⟩, hPG, hPT, hGT⟩ := id hCL
  obtain ⟨⟨moP, hlP⟩, -⟩ := id hLP
  obtain ⟨⟨moG, hlG⟩, -⟩ := id hLG
  obtain ⟨⟨moT, hlT⟩, -⟩ := id hLT
  refine lv_aload_n hx hb dX7_pushes_0 rfl (lv_at hl 0 rfl) ?_
  refine lv_iload_n hx hb dX7_pushes_1 rfl (lv_at hl 1 rfl) ?_
  refine hm_xV (rest := []) (k := 4) q3_80 q3_82 q1_1 q3_83 q0_5 rfl nm_X7_findGame rfl hx hb hml hown hts hK hO hS hH hl.1 hx0 hout hlocks (c_findGame Γ l x0 lp lg lt ca tr pl lim rf so sp sh sm aG cg_ ng G v0 f hst hx0 hLG (by omega) (by omega) (fun i hi => ⟨_, hG i hi⟩)) (fun E f' h_ => by obtain ⟨rfl, hno, rfl⟩ := h_; have hb0 := inB_no (by omega) hno; exact ⟨by rw [hb0]; exact (show (1 : Int32) ≠ 0 by decide), by rw [hb0]; exact (Or.inl ⟨rfl, rfl⟩), hC, hm_kd.rf⟩) ⟨Nat.le_of_ble_eq_true rfl, Nat.le_of_ble_eq_true rfl⟩ ⟨Nat.le_of_ble_eq_true rfl, Nat.le_of_ble_eq_true rfl⟩ ⟨Nat.le_of_ble_eq_true rfl, Nat.le_of_ble_eq_true rfl⟩ rfl (Nat.le_of_ble_eq_true rfl) dX7_pushes_2 (fun v_ f_ H locs hp_ hH hS => ?_)
  obtain ⟨i, hi, rfl, rfl, ef_⟩ := hp_
  rw [ef_] at hH
  clear ef_
  refine W.eq (g2 := F0 m 5 ls [.ref ((G i))]) rfl ?_
  have hb1 := inB_yes (n := ng) (by omega) hi
  have hix : ix (nI i) = i := ix_nI (by omega)
  have hGi := hG i hi
  obtain ⟨hgo, hgw, hgz⟩ := hgs i hi
  have hi8 : i < 8 := by omega
  have ht31 : tl 31 (gs i).2.1 := tl31 (by omega)
  refine gf_X7_147 hx hb hts hown hK hH hGi rfl dX7_pushes_5 ?_
  exact vx_ret (hm_iret hx hb hr hlocks hS hH (⟨by rw [hb1]; (try rw [hix]); rfl, by rw [hix], hC, hm_kd.rf⟩) (Nat.le_of_ble_eq_true rfl) (Nat.le_of_ble_eq_true rfl) dX7_pushes_8)
set_option maxHeartbeats 4000000 in
set_option maxRecDepth 100000 in
theorem t_X7_follows (Γ : Gm) (l : Launch) (x0 : Nat) (mf : Nat → Int32) (E : Nat → EV) (cn us : Int32) (so sh sm : Int64) (np : Nat) (mon : Nat → Int32) (ng : Nat) (gs : Nat → GS) (nt : Nat) (ts : Nat → TR) (lim : Int32) (rf sp : Int64) (rr : Nat) (v0 : Int32) (f : Hm) (hst : l.stackTraces = false) (hC : CW Γ f x0 mf E cn us so sh sm np mon ng gs nt ts lim rf sp rr) (hnp : np ≤ 4) (hng : ng ≤ 8) (hnt : nt ≤ 60) (hr1 : 1 ≤ rr) (hrr : rr ≤ 64) (hgs : GOK np ng gs) : Cx Γ l yX7_follows cX7_follows 2 (some .int) 6 1 6 [.ref x0, .int v0] f (cP (if inB v0 (nI ng) then 0 else 1) ((gs (ix v0)).2.2.2.2.2.2.1) Γ f (fun f' => CW Γ f' x0 mf E cn us so sh sm np mon ng gs nt ts lim rf sp rr)) (cY [("java/lang/IndexOutOfBoundsException", 1)] (if inB v0 (nI ng) then 0 else 1) Γ f (fun f' => CW Γ f' x0 mf E cn us so sh sm np mon ng gs nt ts lim rf sp rr)) := by
  refine Cx_of (by decide +kernel) (Nat.le_of_ble_eq_true rfl) ?_
  intro p e s m args below meth c hx hb hr hml hown hin hlocks hout hts hH hO hK ls hl
  have hl0 := hl
  have hl : lv_has ls 2 [(0, .ref x0), (1, .int v0)] := hl
  have hS : va_S (gA Γ) s.heap s.heap [] := va_S.rf
  obtain ⟨lp, lg, lt, ca, tr, pl, hCL, hCD⟩ := id hC
  obtain ⟨hx0, aP, cp_, P, aG, cg_, G, aT, ct_, T, ⟨hLP, hcP, hP, hPj⟩, ⟨hLG, hcG, hG, hGj⟩, ⟨hLT, hcT, hT⟩, ⟨hpg, hpt, hgt⟩, hPG, hPT, hGT⟩ := id hCL
  obtain ⟨⟨moP, hlP⟩, -⟩ := id hLP
  obtain ⟨⟨moG, hlG⟩, -⟩ := id hLG
  obtain ⟨⟨moT, hlT⟩, -⟩ := id hLT
  refine lv_aload_n hx hb dX7_follows_0 rfl (lv_at hl 0 rfl) ?_
  refine lv_iload_n hx hb dX7_follows_1 rfl (lv_at hl 1 rfl) ?_
  refine hm_xV (rest := []) (k := 4) q3_80 q3_82 q1_1 q3_83 q0_5 rfl nm_X7_findGame rfl hx hb hml hown hts hK hO hS hH hl.1 hx0 hout hlocks (c_findGame Γ l x0 lp lg lt ca tr pl lim rf so sp sh sm aG cg_ ng G v0 f hst hx0 hLG (by omega) (by omega) (fun i hi => ⟨_, hG i hi⟩)) (fun E f' h_ => by obtain ⟨rfl, hno, rfl⟩ := h_; have hb0 := inB_no (by omega) hno; exact ⟨by rw [hb0]; exact (show (1 : Int32) ≠ 0 by decide), by rw [hb0]; exact (Or.inl ⟨rfl, rfl⟩), hC, hm_kd.rf⟩) ⟨Nat.le_of_ble_eq_true rfl, Nat.le_of_ble_eq_true rfl⟩ ⟨Nat.le_of_ble_eq_true rfl, Nat.le_of_ble_eq_true rfl⟩ ⟨Nat.le_of_ble_eq_true rfl, Nat.le_of_ble_eq_true rfl⟩ rfl (Nat.le_of_ble_eq_true rfl) dX7_follows_2 (fun v_ f_ H locs hp_ hH hS => ?_)
  obtain ⟨i, hi, rfl, rfl, ef_⟩ := hp_
  rw [ef_] at hH
  clear ef_
  refine W.eq (g2 := F0 m 5 ls [.ref ((G i))]) rfl ?_
  have hb1 := inB_yes (n := ng) (by omega) hi
  have hix : ix (nI i) = i := ix_nI (by omega)
  have hGi := hG i hi
  obtain ⟨hgo, hgw, hgz⟩ := hgs i hi
  have hi8 : i < 8 := by omega
  have ht31 : tl 31 (gs i).2.1 := tl31 (by omega)
  refine gf_X7_230 hx hb hts hown hK hH hGi rfl dX7_follows_5 ?_
  exact vx_ret (hm_iret hx hb hr hlocks hS hH (⟨by rw [hb1]; (try rw [hix]); rfl, by rw [hix], hC, hm_kd.rf⟩) (Nat.le_of_ble_eq_true rfl) (Nat.le_of_ble_eq_true rfl) dX7_follows_8)
set_option maxHeartbeats 4000000 in
set_option maxRecDepth 100000 in
theorem t_X7_isVoid (Γ : Gm) (l : Launch) (x0 : Nat) (mf : Nat → Int32) (E : Nat → EV) (cn us : Int32) (so sh sm : Int64) (np : Nat) (mon : Nat → Int32) (ng : Nat) (gs : Nat → GS) (nt : Nat) (ts : Nat → TR) (lim : Int32) (rf sp : Int64) (rr : Nat) (v0 : Int32) (f : Hm) (hst : l.stackTraces = false) (hC : CW Γ f x0 mf E cn us so sh sm np mon ng gs nt ts lim rf sp rr) (hnp : np ≤ 4) (hng : ng ≤ 8) (hnt : nt ≤ 60) (hr1 : 1 ≤ rr) (hrr : rr ≤ 64) (hgs : GOK np ng gs) : Cx Γ l yX7_isVoid cX7_isVoid 2 (some .boolean) 6 1 6 [.ref x0, .int v0] f (cP (if inB v0 (nI ng) then 0 else 1) (bI (gs (ix v0)).2.2.2.2.2.2.2.2) Γ f (fun f' => CW Γ f' x0 mf E cn us so sh sm np mon ng gs nt ts lim rf sp rr)) (cY [("java/lang/IndexOutOfBoundsException", 1)] (if inB v0 (nI ng) then 0 else 1) Γ f (fun f' => CW Γ f' x0 mf E cn us so sh sm np mon ng gs nt ts lim rf sp rr)) := by
  refine Cx_of (by decide +kernel) (Nat.le_of_ble_eq_true rfl) ?_
  intro p e s m args below meth c hx hb hr hml hown hin hlocks hout hts hH hO hK ls hl
  have hl0 := hl
  have hl : lv_has ls 2 [(0, .ref x0), (1, .int v0)] := hl
  have hS : va_S (gA Γ) s.heap s.heap [] := va_S.rf
  obtain ⟨lp, lg, lt, ca, tr, pl, hCL, hCD⟩ := id hC
  obtain ⟨hx0, aP, cp_, P, aG, cg_, G, aT, ct_, T, ⟨hLP, hcP, hP, hPj⟩, ⟨hLG, hcG, hG, hGj⟩, ⟨hLT, hcT, hT⟩, ⟨hpg, hpt, hgt⟩, hPG, hPT, hGT⟩ := id hCL
  obtain ⟨⟨moP, hlP⟩, -⟩ := id hLP
  obtain ⟨⟨moG, hlG⟩, -⟩ := id hLG
  obtain ⟨⟨moT, hlT⟩, -⟩ := id hLT
  refine lv_aload_n hx hb dX7_isVoid_0 rfl (lv_at hl 0 rfl) ?_
  refine lv_iload_n hx hb dX7_isVoid_1 rfl (lv_at hl 1 rfl) ?_
  refine hm_xV (rest := []) (k := 4) q3_80 q3_82 q1_1 q3_83 q0_5 rfl nm_X7_findGame rfl hx hb hml hown hts hK hO hS hH hl.1 hx0 hout hlocks (c_findGame Γ l x0 lp lg lt ca tr pl lim rf so sp sh sm aG cg_ ng G v0 f hst hx0 hLG (by omega) (by omega) (fun i hi => ⟨_, hG i hi⟩)) (fun E f' h_ => by obtain ⟨rfl, hno, rfl⟩ := h_; have hb0 := inB_no (by omega) hno; exact ⟨by rw [hb0]; exact (show (1 : Int32) ≠ 0 by decide), by rw [hb0]; exact (Or.inl ⟨rfl, rfl⟩), hC, hm_kd.rf⟩) ⟨Nat.le_of_ble_eq_true rfl, Nat.le_of_ble_eq_true rfl⟩ ⟨Nat.le_of_ble_eq_true rfl, Nat.le_of_ble_eq_true rfl⟩ ⟨Nat.le_of_ble_eq_true rfl, Nat.le_of_ble_eq_true rfl⟩ rfl (Nat.le_of_ble_eq_true rfl) dX7_isVoid_2 (fun v_ f_ H locs hp_ hH hS => ?_)
  obtain ⟨i, hi, rfl, rfl, ef_⟩ := hp_
  rw [ef_] at hH
  clear ef_
  refine W.eq (g2 := F0 m 5 ls [.ref ((G i))]) rfl ?_
  have hb1 := inB_yes (n := ng) (by omega) hi
  have hix : ix (nI i) = i := ix_nI (by omega)
  have hGi := hG i hi
  obtain ⟨hgo, hgw, hgz⟩ := hgs i hi
  have hi8 : i < 8 := by omega
  have ht31 : tl 31 (gs i).2.1 := tl31 (by omega)
  refine gf_X7_108 hx hb hts hown hK hH hGi rfl dX7_isVoid_5 ?_
  exact vx_ret (hm_zret hx hb hr (bI_nar _) hlocks hS hH (⟨by rw [hb1]; (try rw [hix]); rfl, by rw [hix], hC, hm_kd.rf⟩) (Nat.le_of_ble_eq_true rfl) (Nat.le_of_ble_eq_true rfl) dX7_isVoid_8)
set_option maxHeartbeats 4000000 in
set_option maxRecDepth 100000 in
theorem t_X7_isOver (Γ : Gm) (l : Launch) (x0 : Nat) (mf : Nat → Int32) (E : Nat → EV) (cn us : Int32) (so sh sm : Int64) (np : Nat) (mon : Nat → Int32) (ng : Nat) (gs : Nat → GS) (nt : Nat) (ts : Nat → TR) (lim : Int32) (rf sp : Int64) (rr : Nat) (v0 : Int32) (f : Hm) (hst : l.stackTraces = false) (hC : CW Γ f x0 mf E cn us so sh sm np mon ng gs nt ts lim rf sp rr) (hnp : np ≤ 4) (hng : ng ≤ 8) (hnt : nt ≤ 60) (hr1 : 1 ≤ rr) (hrr : rr ≤ 64) (hgs : GOK np ng gs) : Cx Γ l yX7_isOver cX7_isOver 2 (some .boolean) 8 1 6 [.ref x0, .int v0] f (cP (if inB v0 (nI ng) then 0 else 1) (bI (ovN (gs (ix v0)).2.1)) Γ f (fun f' => CW Γ f' x0 mf E cn us so sh sm np mon ng gs nt ts lim rf sp rr)) (cY [("java/lang/IndexOutOfBoundsException", 1)] (if inB v0 (nI ng) then 0 else 1) Γ f (fun f' => CW Γ f' x0 mf E cn us so sh sm np mon ng gs nt ts lim rf sp rr)) := by
  refine Cx_of (by decide +kernel) (Nat.le_of_ble_eq_true rfl) ?_
  intro p e s m args below meth c hx hb hr hml hown hin hlocks hout hts hH hO hK ls hl
  have hl0 := hl
  have hl : lv_has ls 2 [(0, .ref x0), (1, .int v0)] := hl
  have hS : va_S (gA Γ) s.heap s.heap [] := va_S.rf
  obtain ⟨lp, lg, lt, ca, tr, pl, hCL, hCD⟩ := id hC
  obtain ⟨hx0, aP, cp_, P, aG, cg_, G, aT, ct_, T, ⟨hLP, hcP, hP, hPj⟩, ⟨hLG, hcG, hG, hGj⟩, ⟨hLT, hcT, hT⟩, ⟨hpg, hpt, hgt⟩, hPG, hPT, hGT⟩ := id hCL
  obtain ⟨⟨moP, hlP⟩, -⟩ := id hLP
  obtain ⟨⟨moG, hlG⟩, -⟩ := id hLG
  obtain ⟨⟨moT, hlT⟩, -⟩ := id hLT
  refine lv_aload_n hx hb dX7_isOver_0 rfl (lv_at hl 0 rfl) ?_
  refine lv_iload_n hx hb dX7_isOver_1 rfl (lv_at hl 1 rfl) ?_
  refine hm_xV (rest := []) (k := 4) q3_80 q3_82 q1_1 q3_83 q0_5 rfl nm_X7_findGame rfl hx hb hml hown hts hK hO hS hH hl.1 hx0 hout hlocks (c_findGame Γ l x0 lp lg lt ca tr pl lim rf so sp sh sm aG cg_ ng G v0 f hst hx0 hLG (by omega) (by omega) (fun i hi => ⟨_, hG i hi⟩)) (fun E f' h_ => by obtain ⟨rfl, hno, rfl⟩ := h_; have hb0 := inB_no (by omega) hno; exact ⟨by rw [hb0]; exact (show (1 : Int32) ≠ 0 by decide), by rw [hb0]; exact (Or.inl ⟨rfl, rfl⟩), hC, hm_kd.rf⟩) ⟨Nat.le_of_ble_eq_true rfl, Nat.le_of_ble_eq_true rfl⟩ ⟨Nat.le_of_ble_eq_true rfl, Nat.le_of_ble_eq_true rfl⟩ ⟨Nat.le_of_ble_eq_true rfl, Nat.le_of_ble_eq_true rfl⟩ rfl (Nat.le_of_ble_eq_true rfl) dX7_isOver_2 (fun v_ f_ H locs hp_ hH hS => ?_)
  obtain ⟨i, hi, rfl, rfl, ef_⟩ := hp_
  rw [ef_] at hH
  clear ef_
  refine W.eq (g2 := F0 m 5 ls [.ref ((G i))]) rfl ?_
  have hb1 := inB_yes (n := ng) (by omega) hi
  have hix : ix (nI i) = i := ix_nI (by omega)
  have hGi := hG i hi
  obtain ⟨hgo, hgw, hgz⟩ := hgs i hi
  have hi8 : i < 8 := by omega
  have ht31 : tl 31 (gs i).2.1 := tl31 (by omega)
  refine gf_X7_112 hx hb hts hown hK hH hGi rfl dX7_isOver_5 ?_
  refine hm_callS (rest := []) (k := 6) q3_159 q3_160 q1_24 q3_161 nm_X0_isStuck rfl hx hb hml hown hts hK hO hS hH hl.1 (c_X0_isStuck Γ l (gs i).2.1 f ht31) ⟨Nat.le_of_ble_eq_true rfl, Nat.le_of_ble_eq_true rfl⟩ ⟨Nat.le_of_ble_eq_true rfl, Nat.le_of_ble_eq_true rfl⟩ rfl (Nat.le_of_ble_eq_true rfl) dX7_isOver_8 (fun v_ f_ H locs hp_ hH hS => ?_)
  obtain ⟨rfl, ef_⟩ := hp_
  rw [ef_] at hH
  clear ef_
  refine W.eq (g2 := F0 m 11 ls [.int (bI (ovN (gs i).2.1))]) rfl ?_
  exact vx_ret (hm_zret hx hb hr (bI_nar _) hlocks hS hH (⟨by rw [hb1]; (try rw [hix]); rfl, by rw [hix], hC, hm_kd.rf⟩) (Nat.le_of_ble_eq_true rfl) (Nat.le_of_ble_eq_true rfl) dX7_isOver_11)
set_option maxHeartbeats 4000000 in
set_option maxRecDepth 100000 in
theorem t_X7_money (Γ : Gm) (l : Launch) (x0 : Nat) (mf : Nat → Int32) (E : Nat → EV) (cn us : Int32) (so sh sm : Int64) (np : Nat) (mon : Nat → Int32) (ng : Nat) (gs : Nat → GS) (nt : Nat) (ts : Nat → TR) (lim : Int32) (rf sp : Int64) (rr : Nat) (v0 : Int32) (f : Hm) (hst : l.stackTraces = false) (hC : CW Γ f x0 mf E cn us so sh sm np mon ng gs nt ts lim rf sp rr) (hnp : np ≤ 4) (hng : ng ≤ 8) (hnt : nt ≤ 60) (hr1 : 1 ≤ rr) (hrr : rr ≤ 64) (hgs : GOK np ng gs) : Cx Γ l yX7_money cX7_money 2 (some .int) 6 1 6 [.ref x0, .int v0] f (cP (if inB v0 (nI np) then 0 else 1) (mon (ix v0)) Γ f (fun f' => CW Γ f' x0 mf E cn us so sh sm np mon ng gs nt ts lim rf sp rr)) (cY [("java/lang/IndexOutOfBoundsException", 1)] (if inB v0 (nI np) then 0 else 1) Γ f (fun f' => CW Γ f' x0 mf E cn us so sh sm np mon ng gs nt ts lim rf sp rr)) := by
  refine Cx_of (by decide +kernel) (Nat.le_of_ble_eq_true rfl) ?_
  intro p e s m args below meth c hx hb hr hml hown hin hlocks hout hts hH hO hK ls hl
  have hl0 := hl
  have hl : lv_has ls 2 [(0, .ref x0), (1, .int v0)] := hl
  have hS : va_S (gA Γ) s.heap s.heap [] := va_S.rf
  obtain ⟨lp, lg, lt, ca, tr, pl, hCL, hCD⟩ := id hC
  obtain ⟨hx0, aP, cp_, P, aG, cg_, G, aT, ct_, T, ⟨hLP, hcP, hP, hPj⟩, ⟨hLG, hcG, hG, hGj⟩, ⟨hLT, hcT, hT⟩, ⟨hpg, hpt, hgt⟩, hPG, hPT, hGT⟩ := id hCL
  obtain ⟨⟨moP, hlP⟩, -⟩ := id hLP
  obtain ⟨⟨moG, hlG⟩, -⟩ := id hLG
  obtain ⟨⟨moT, hlT⟩, -⟩ := id hLT
  refine lv_aload_n hx hb dX7_money_0 rfl (lv_at hl 0 rfl) ?_
  refine lv_iload_n hx hb dX7_money_1 rfl (lv_at hl 1 rfl) ?_
  refine hm_xV (rest := []) (k := 4) q2_212 q2_214 q1_1 q2_215 q0_4 rfl nm_X7_findPlayer rfl hx hb hml hown hts hK hO hS hH hl.1 hx0 hout hlocks (c_findPlayer Γ l x0 lp lg lt ca tr pl lim rf so sp sh sm aP cp_ np P v0 f hst hx0 hLP (by omega) (by omega) (fun i hi => ⟨_, hP i hi⟩)) (fun E f' h_ => by obtain ⟨rfl, hno, rfl⟩ := h_; have hb0 := inB_no (by omega) hno; exact ⟨by rw [hb0]; exact (show (1 : Int32) ≠ 0 by decide), by rw [hb0]; exact (Or.inl ⟨rfl, rfl⟩), hC, hm_kd.rf⟩) ⟨Nat.le_of_ble_eq_true rfl, Nat.le_of_ble_eq_true rfl⟩ ⟨Nat.le_of_ble_eq_true rfl, Nat.le_of_ble_eq_true rfl⟩ ⟨Nat.le_of_ble_eq_true rfl, Nat.le_of_ble_eq_true rfl⟩ rfl (Nat.le_of_ble_eq_true rfl) dX7_money_2 (fun v_ f_ H locs hp_ hH hS => ?_)
  obtain ⟨i, hi, rfl, rfl, ef_⟩ := hp_
  rw [ef_] at hH
  clear ef_
  refine W.eq (g2 := F0 m 5 ls [.ref ((P i))]) rfl ?_
  have hb1 := inB_yes (n := np) (by omega) hi
  have hix : ix (nI i) = i := ix_nI (by omega)
  have hPi_ := hP i hi
  refine gf_X7_172 hx hb hts hown hK hH hPi_ rfl dX7_money_5 ?_
  exact vx_ret (hm_iret hx hb hr hlocks hS hH (⟨by rw [hb1]; (try rw [hix]); rfl, by rw [hix], hC, hm_kd.rf⟩) (Nat.le_of_ble_eq_true rfl) (Nat.le_of_ble_eq_true rfl) dX7_money_8)
set_option maxHeartbeats 4000000 in
set_option maxRecDepth 100000 in
theorem t_X7_playerOf (Γ : Gm) (l : Launch) (x0 : Nat) (mf : Nat → Int32) (E : Nat → EV) (cn us : Int32) (so sh sm : Int64) (np : Nat) (mon : Nat → Int32) (ng : Nat) (gs : Nat → GS) (nt : Nat) (ts : Nat → TR) (lim : Int32) (rf sp : Int64) (rr : Nat) (v0 : Int32) (f : Hm) (hst : l.stackTraces = false) (hC : CW Γ f x0 mf E cn us so sh sm np mon ng gs nt ts lim rf sp rr) (hnp : np ≤ 4) (hng : ng ≤ 8) (hnt : nt ≤ 60) (hr1 : 1 ≤ rr) (hrr : rr ≤ 64) (hgs : GOK np ng gs) : Cx Γ l yX7_playerOf cX7_playerOf 2 (some .int) 6 1 6 [.ref x0, .int v0] f (cP (if inB v0 (nI nt) then 0 else 1) (nI (ts (ix v0)).1) Γ f (fun f' => CW Γ f' x0 mf E cn us so sh sm np mon ng gs nt ts lim rf sp rr)) (cY [("java/lang/IndexOutOfBoundsException", 1)] (if inB v0 (nI nt) then 0 else 1) Γ f (fun f' => CW Γ f' x0 mf E cn us so sh sm np mon ng gs nt ts lim rf sp rr)) := by
  refine Cx_of (by decide +kernel) (Nat.le_of_ble_eq_true rfl) ?_
  intro p e s m args below meth c hx hb hr hml hown hin hlocks hout hts hH hO hK ls hl
  have hl0 := hl
  have hl : lv_has ls 2 [(0, .ref x0), (1, .int v0)] := hl
  have hS : va_S (gA Γ) s.heap s.heap [] := va_S.rf
  obtain ⟨lp, lg, lt, ca, tr, pl, hCL, hCD⟩ := id hC
  obtain ⟨hx0, aP, cp_, P, aG, cg_, G, aT, ct_, T, ⟨hLP, hcP, hP, hPj⟩, ⟨hLG, hcG, hG, hGj⟩, ⟨hLT, hcT, hT⟩, ⟨hpg, hpt, hgt⟩, hPG, hPT, hGT⟩ := id hCL
  obtain ⟨⟨moP, hlP⟩, -⟩ := id hLP
  obtain ⟨⟨moG, hlG⟩, -⟩ := id hLG
  obtain ⟨⟨moT, hlT⟩, -⟩ := id hLT
  refine lv_aload_n hx hb dX7_playerOf_0 rfl (lv_at hl 0 rfl) ?_
  refine lv_iload_n hx hb dX7_playerOf_1 rfl (lv_at hl 1 rfl) ?_
  refine hm_xV (rest := []) (k := 4) q4_63 q4_65 q1_1 q4_66 q0_11 rfl nm_X7_findTrace rfl hx hb hml hown hts hK hO hS hH hl.1 hx0 hout hlocks (c_findTrace Γ l x0 lp lg lt ca tr pl lim rf so sp sh sm aT ct_ nt T v0 f hst hx0 hLT (by omega) (by omega) (fun i hi => ⟨_, hT i hi⟩)) (fun E f' h_ => by obtain ⟨rfl, hno, rfl⟩ := h_; have hb0 := inB_no (by omega) hno; exact ⟨by rw [hb0]; exact (show (1 : Int32) ≠ 0 by decide), by rw [hb0]; exact (Or.inl ⟨rfl, rfl⟩), hC, hm_kd.rf⟩) ⟨Nat.le_of_ble_eq_true rfl, Nat.le_of_ble_eq_true rfl⟩ ⟨Nat.le_of_ble_eq_true rfl, Nat.le_of_ble_eq_true rfl⟩ ⟨Nat.le_of_ble_eq_true rfl, Nat.le_of_ble_eq_true rfl⟩ rfl (Nat.le_of_ble_eq_true rfl) dX7_playerOf_2 (fun v_ f_ H locs hp_ hH hS => ?_)
  obtain ⟨i, hi, rfl, rfl, ef_⟩ := hp_
  rw [ef_] at hH
  clear ef_
  refine W.eq (g2 := F0 m 5 ls [.ref ((T i))]) rfl ?_
  have hb1 := inB_yes (n := nt) (by omega) hi
  have hix : ix (nI i) = i := ix_nI (by omega)
  have hTi := hT i hi
  refine gf_X7_244 hx hb hts hown hK hH hTi rfl dX7_playerOf_5 ?_
  exact vx_ret (hm_iret hx hb hr hlocks hS hH (⟨by rw [hb1]; (try rw [hix]); rfl, by rw [hix], hC, hm_kd.rf⟩) (Nat.le_of_ble_eq_true rfl) (Nat.le_of_ble_eq_true rfl) dX7_playerOf_8)
set_option maxHeartbeats 4000000 in
set_option maxRecDepth 100000 in
theorem t_X7_canPush (Γ : Gm) (l : Launch) (x0 : Nat) (mf : Nat → Int32) (E : Nat → EV) (cn us : Int32) (so sh sm : Int64) (np : Nat) (mon : Nat → Int32) (ng : Nat) (gs : Nat → GS) (nt : Nat) (ts : Nat → TR) (lim : Int32) (rf sp : Int64) (rr : Nat) (v0 v1 : Int32) (f : Hm) (hst : l.stackTraces = false) (hC : CW Γ f x0 mf E cn us so sh sm np mon ng gs nt ts lim rf sp rr) (hnp : np ≤ 4) (hng : ng ≤ 8) (hnt : nt ≤ 60) (hr1 : 1 ≤ rr) (hrr : rr ≤ 64) (hgs : GOK np ng gs) : Cx Γ l yX7_canPush cX7_canPush 4 (some .boolean) 8 2 12 [.ref x0, .int v0, .int v1] f (cP (if inB v0 (nI ng) then (if inB v1 4 then 0 else 2) else 1) (bI (goN (gs (ix v0)).2.1 (ix v1))) Γ f (fun f' => CW Γ f' x0 mf E cn us so sh sm np mon ng gs nt ts lim rf sp rr)) (cY [("java/lang/IndexOutOfBoundsException", 1), ("java/lang/IllegalArgumentException", 2)] (if inB v0 (nI ng) then (if inB v1 4 then 0 else 2) else 1) Γ f (fun f' => CW Γ f' x0 mf E cn us so sh sm np mon ng gs nt ts lim rf sp rr)) := by
  refine Cx_of (by decide +kernel) (Nat.le_of_ble_eq_true rfl) ?_
  intro p e s m args below meth c hx hb hr hml hown hin hlocks hout hts hH hO hK ls hl
  have hl0 := hl
  have hl : lv_has ls 4 [(0, .ref x0), (1, .int v0), (2, .int v1)] := hl
  have hS : va_S (gA Γ) s.heap s.heap [] := va_S.rf
  obtain ⟨lp, lg, lt, ca, tr, pl, hCL, hCD⟩ := id hC
  obtain ⟨hx0, aP, cp_, P, aG, cg_, G, aT, ct_, T, ⟨hLP, hcP, hP, hPj⟩, ⟨hLG, hcG, hG, hGj⟩, ⟨hLT, hcT, hT⟩, ⟨hpg, hpt, hgt⟩, hPG, hPT, hGT⟩ := id hCL
  obtain ⟨⟨moP, hlP⟩, -⟩ := id hLP
  obtain ⟨⟨moG, hlG⟩, -⟩ := id hLG
  obtain ⟨⟨moT, hlT⟩, -⟩ := id hLT
  refine lv_aload_n hx hb dX7_canPush_0 rfl (lv_at hl 0 rfl) ?_
  refine lv_iload_n hx hb dX7_canPush_1 rfl (lv_at hl 1 rfl) ?_
  refine hm_xV (rest := []) (k := 4) q3_80 q3_82 q1_1 q3_83 q0_5 rfl nm_X7_findGame rfl hx hb hml hown hts hK hO hS hH hl.1 hx0 hout hlocks (c_findGame Γ l x0 lp lg lt ca tr pl lim rf so sp sh sm aG cg_ ng G v0 f hst hx0 hLG (by omega) (by omega) (fun i hi => ⟨_, hG i hi⟩)) (fun E f' h_ => by obtain ⟨rfl, hno, rfl⟩ := h_; have hb0 := inB_no (by omega) hno; exact ⟨by rw [hb0]; exact (show (1 : Int32) ≠ 0 by decide), by rw [hb0]; exact (Or.inl ⟨rfl, rfl⟩), hC, hm_kd.rf⟩) ⟨Nat.le_of_ble_eq_true rfl, Nat.le_of_ble_eq_true rfl⟩ ⟨Nat.le_of_ble_eq_true rfl, Nat.le_of_ble_eq_true rfl⟩ ⟨Nat.le_of_ble_eq_true rfl, Nat.le_of_ble_eq_true rfl⟩ rfl (Nat.le_of_ble_eq_true rfl) dX7_canPush_2 (fun v_ f_ H locs hp_ hH hS => ?_)
  obtain ⟨i, hi, rfl, rfl, ef_⟩ := hp_
  rw [ef_] at hH
  clear ef_
  refine W.eq (g2 := F0 m 5 ls [.ref ((G i))]) rfl ?_
  have hb1 := inB_yes (n := ng) (by omega) hi
  have hix : ix (nI i) = i := ix_nI (by omega)
  have hGi := hG i hi
  obtain ⟨hgo, hgw, hgz⟩ := hgs i hi
  have hi8 : i < 8 := by omega
  have ht31 : tl 31 (gs i).2.1 := tl31 (by omega)
  refine lv_astore_n (lv' := [(3, .ref ((G i))), (0, .ref x0), (1, .int (nI i)), (2, .int v1)]) hx hb dX7_canPush_5 rfl hl (by decide) rfl (fun ls hl => ?_)
  refine lv_iload_n hx hb dX7_canPush_6 rfl (lv_at hl 3 rfl) ?_
  refine hm_xS (rest := []) (k := 2) q3_85 q3_86 q1_1 q3_87 nm_X7_checkWay rfl hx hb hml hown hts hK hO hS hH hl.1 hout hlocks (c_checkWay Γ l v1 f hst) (fun E f' h_ => by obtain ⟨rfl, hno, rfl⟩ := h_; have hb0 : inB v1 4 = false := inB_no (n := 4) (by decide) hno; exact ⟨by rw [hb1]; (try rw [hix]); rw [hb0]; exact (show (2 : Int32) ≠ 0 by decide), by rw [hb1]; (try rw [hix]); rw [hb0]; exact (Or.inr (Or.inl ⟨rfl, rfl⟩)), hC, hm_kd.rf⟩) ⟨Nat.le_of_ble_eq_true rfl, Nat.le_of_ble_eq_true rfl⟩ ⟨Nat.le_of_ble_eq_true rfl, Nat.le_of_ble_eq_true rfl⟩ ⟨Nat.le_of_ble_eq_true rfl, Nat.le_of_ble_eq_true rfl⟩ rfl (Nat.le_of_ble_eq_true rfl) dX7_canPush_7 (fun v_ f_ H locs hp_ hH hS => ?_)
  obtain ⟨rfl, ⟨to, hto, rfl⟩, ef_⟩ := hp_
  rw [ef_] at hH
  clear ef_
  refine W.eq (g2 := F0 m 10 ls []) rfl ?_
  have hb2 : inB (nI to) 4 = true := inB_yes (n := 4) (by decide) hto
  have hit : ix (nI to) = to := ix_nI (by omega)
  refine lv_aload_n hx hb dX7_canPush_10 rfl (lv_at hl 0 rfl) ?_
  refine gf_X7_112 hx hb hts hown hK hH hGi rfl dX7_canPush_11 ?_
  refine lv_iload_n hx hb dX7_canPush_14 rfl (lv_at hl 3 rfl) ?_
  refine hm_callS (rest := []) (k := 5) q3_89 q3_90 q1_24 q3_91 nm_X0_canGo rfl hx hb hml hown hts hK hO hS hH hl.1 (c_X0_canGo Γ l (gs i).2.1 to f ht31 hto) ⟨Nat.le_of_ble_eq_true rfl, Nat.le_of_ble_eq_true rfl⟩ ⟨Nat.le_of_ble_eq_true rfl, Nat.le_of_ble_eq_true rfl⟩ rfl (Nat.le_of_ble_eq_true rfl) dX7_canPush_15 (fun v_ f_ H locs hp_ hH hS => ?_)
  obtain ⟨rfl, ef_⟩ := hp_
  rw [ef_] at hH
  clear ef_
  refine W.eq (g2 := F0 m 18 ls [.int (bI (goN (gs i).2.1 to))]) rfl ?_
  exact vx_ret (hm_zret hx hb hr (bI_nar _) hlocks hS hH (⟨by rw [hb1]; (try rw [hix]); rw [hb2]; (try rw [hit]); rfl, by rw [hix, hit], hC, hm_kd.rf⟩) (Nat.le_of_ble_eq_true rfl) (Nat.le_of_ble_eq_true rfl) dX7_canPush_18)
set_option maxHeartbeats 4000000 in
set_option maxRecDepth 100000 in
theorem t_X7_at (Γ : Gm) (l : Launch) (x0 : Nat) (mf : Nat → Int32) (E : Nat → EV) (cn us : Int32) (so sh sm : Int64) (np : Nat) (mon : Nat → Int32) (ng : Nat) (gs : Nat → GS) (nt : Nat) (ts : Nat → TR) (lim : Int32) (rf sp : Int64) (rr : Nat) (v0 v1 v2 : Int32) (f : Hm) (hst : l.stackTraces = false) (hC : CW Γ f x0 mf E cn us so sh sm np mon ng gs nt ts lim rf sp rr) (hnp : np ≤ 4) (hng : ng ≤ 8) (hnt : nt ≤ 60) (hr1 : 1 ≤ rr) (hrr : rr ≤ 64) (hgs : GOK np ng gs) : Cx Γ l yX7_at cX7_at 5 (some .int) 6 2 12 [.ref x0, .int v0, .int v1, .int v2] f (cP (if inB v0 (nI ng) then (if (inB v1 3 && inB v2 3) then 0 else 2) else 1) (nI ((gs (ix v0)).2.1 (3 * ix v1 + ix v2))) Γ f (fun f' => CW Γ f' x0 mf E cn us so sh sm np mon ng gs nt ts lim rf sp rr)) (cY [("java/lang/IndexOutOfBoundsException", 1), ("java/lang/IllegalArgumentException", 2)] (if inB v0 (nI ng) then (if (inB v1 3 && inB v2 3) then 0 else 2) else 1) Γ f (fun f' => CW Γ f' x0 mf E cn us so sh sm np mon ng gs nt ts lim rf sp rr)) := by
  refine Cx_of (by decide +kernel) (Nat.le_of_ble_eq_true rfl) ?_
  intro p e s m args below meth c hx hb hr hml hown hin hlocks hout hts hH hO hK ls hl
  have hl0 := hl
  have hl : lv_has ls 5 [(0, .ref x0), (1, .int v0), (2, .int v1), (3, .int v2)] := hl
  have hS : va_S (gA Γ) s.heap s.heap [] := va_S.rf
  obtain ⟨lp, lg, lt, ca, tr, pl, hCL, hCD⟩ := id hC
  obtain ⟨hx0, aP, cp_, P, aG, cg_, G, aT, ct_, T, ⟨hLP, hcP, hP, hPj⟩, ⟨hLG, hcG, hG, hGj⟩, ⟨hLT, hcT, hT⟩, ⟨hpg, hpt, hgt⟩, hPG, hPT, hGT⟩ := id hCL
  obtain ⟨⟨moP, hlP⟩, -⟩ := id hLP
  obtain ⟨⟨moG, hlG⟩, -⟩ := id hLG
  obtain ⟨⟨moT, hlT⟩, -⟩ := id hLT
  refine lv_aload_n hx hb dX7_at_0 rfl (lv_at hl 0 rfl) ?_
  refine lv_iload_n hx hb dX7_at_1 rfl (lv_at hl 1 rfl) ?_
  refine hm_xV (rest := []) (k := 4) q3_80 q3_82 q1_1 q3_83 q0_5 rfl nm_X7_findGame rfl hx hb hml hown hts hK hO hS hH hl.1 hx0 hout hlocks (c_findGame Γ l x0 lp lg lt ca tr pl lim rf so sp sh sm aG cg_ ng G v0 f hst hx0 hLG (by omega) (by omega) (fun i hi => ⟨_, hG i hi⟩)) (fun E f' h_ => by obtain ⟨rfl, hno, rfl⟩ := h_; have hb0 := inB_no (by omega) hno; exact ⟨by rw [hb0]; exact (show (1 : Int32) ≠ 0 by decide), by rw [hb0]; exact (Or.inl ⟨rfl, rfl⟩), hC, hm_kd.rf⟩) ⟨Nat.le_of_ble_eq_true rfl, Nat.le_of_ble_eq_true rfl⟩ ⟨Nat.le_of_ble_eq_true rfl, Nat.le_of_ble_eq_true rfl⟩ ⟨Nat.le_of_ble_eq_true rfl, Nat.le_of_ble_eq_true rfl⟩ rfl (Nat.le_of_ble_eq_true rfl) dX7_at_2 (fun v_ f_ H locs hp_ hH hS => ?_)
  obtain ⟨i, hi, rfl, rfl, ef_⟩ := hp_
  rw [ef_] at hH
  clear ef_
  refine W.eq (g2 := F0 m 5 ls [.ref ((G i))]) rfl ?_
  have hb1 := inB_yes (n := ng) (by omega) hi
  have hix : ix (nI i) = i := ix_nI (by omega)
  have hGi := hG i hi
  obtain ⟨hgo, hgw, hgz⟩ := hgs i hi
  have hi8 : i < 8 := by omega
  have ht31 : tl 31 (gs i).2.1 := tl31 (by omega)
  refine lv_astore (lv' := [(4, .ref ((G i))), (0, .ref x0), (1, .int (nI i)), (2, .int v1), (3, .int v2)]) hx hb dX7_at_5 hl (by decide) rfl (fun ls hl => ?_)
  refine lv_iload_n hx hb dX7_at_7 rfl (lv_at hl 3 rfl) ?_
  refine lv_if_lt (tgt := 25) hx hb dX7_at_8 (by decide) (fun c1 => ?_) (fun c1 => ?_)
  · exact hm_thr hx hb hst hml hl.1 hown q2_8 q1_12 (text := "there is no such cell") (by decide) xA_IA (by decide +kernel) hts hK hO hS hH dX7_at_25 dX7_at_28 dX7_at_29 dX7_at_31 dX7_at_34 hout hlocks (by have hb0 : (inB v1 3 && inB v2 3) = false := (by rw [show inB v1 3 = false from inB_no (n := 3) (by decide) (rng_lo c1 (by decide))]; rfl); exact ⟨by rw [hb1]; (try rw [hix]); rw [hb0]; exact (show (2 : Int32) ≠ 0 by decide), by rw [hb1]; (try rw [hix]); rw [hb0]; exact (Or.inr (Or.inl ⟨rfl, rfl⟩)), hC, hm_kd.rf⟩) (Nat.le_of_ble_eq_true rfl) (Nat.le_of_ble_eq_true rfl) (Nat.le_of_ble_eq_true rfl) (Nat.le_of_ble_eq_true rfl) (Nat.le_of_ble_eq_true rfl) (Nat.le_of_ble_eq_true rfl)
  · refine lv_iload_n hx hb dX7_at_11 rfl (lv_at hl 3 rfl) ?_
    refine lv_iconst (v := 3) hx hb dX7_at_12 (by decide) ?_
    refine lv_icmp_ge (tgt := 25) hx hb dX7_at_13 (by decide) (fun c2 => ?_) (fun c2 => ?_)
    · exact hm_thr hx hb hst hml hl.1 hown q2_8 q1_12 (text := "there is no such cell") (by decide) xA_IA (by decide +kernel) hts hK hO hS hH dX7_at_25 dX7_at_28 dX7_at_29 dX7_at_31 dX7_at_34 hout hlocks (by have hb0 : (inB v1 3 && inB v2 3) = false := (by rw [show inB v1 3 = false from inB_no (n := 3) (by decide) (rng_hi (Int32.not_lt.mpr c2) (by decide))]; rfl); exact ⟨by rw [hb1]; (try rw [hix]); rw [hb0]; exact (show (2 : Int32) ≠ 0 by decide), by rw [hb1]; (try rw [hix]); rw [hb0]; exact (Or.inr (Or.inl ⟨rfl, rfl⟩)), hC, hm_kd.rf⟩) (Nat.le_of_ble_eq_true rfl) (Nat.le_of_ble_eq_true rfl) (Nat.le_of_ble_eq_true rfl) (Nat.le_of_ble_eq_true rfl) (Nat.le_of_ble_eq_true rfl) (Nat.le_of_ble_eq_true rfl)
    · refine lv_iload_n hx hb dX7_at_16 rfl (lv_at hl 4 rfl) ?_
      refine lv_if_lt (tgt := 25) hx hb dX7_at_17 (by decide) (fun c3 => ?_) (fun c3 => ?_)
      · exact hm_thr hx hb hst hml hl.1 hown q2_8 q1_12 (text := "there is no such cell") (by decide) xA_IA (by decide +kernel) hts hK hO hS hH dX7_at_25 dX7_at_28 dX7_at_29 dX7_at_31 dX7_at_34 hout hlocks (by have hb0 : (inB v1 3 && inB v2 3) = false := (by rw [show inB v2 3 = false from inB_no (n := 3) (by decide) (rng_lo c3 (by decide))]; exact Bool.and_false _); exact ⟨by rw [hb1]; (try rw [hix]); rw [hb0]; exact (show (2 : Int32) ≠ 0 by decide), by rw [hb1]; (try rw [hix]); rw [hb0]; exact (Or.inr (Or.inl ⟨rfl, rfl⟩)), hC, hm_kd.rf⟩) (Nat.le_of_ble_eq_true rfl) (Nat.le_of_ble_eq_true rfl) (Nat.le_of_ble_eq_true rfl) (Nat.le_of_ble_eq_true rfl) (Nat.le_of_ble_eq_true rfl) (Nat.le_of_ble_eq_true rfl)
      · refine lv_iload_n hx hb dX7_at_20 rfl (lv_at hl 4 rfl) ?_
        refine lv_iconst (v := 3) hx hb dX7_at_21 (by decide) ?_
        refine lv_icmp_lt (tgt := 35) hx hb dX7_at_22 (by decide) (fun c4 => ?_) (fun c4 => ?_)
        · obtain ⟨a, ha, rfl⟩ := rng_in (n := 3) c1 (Int32.not_le.mp c2) (by decide)
          obtain ⟨b, hb_, rfl⟩ := rng_in (n := 3) c3 c4 (by decide)
          have hb2 : (inB (nI a) 3 && inB (nI b) 3) = true := by rw [show inB (nI a) 3 = true from inB_yes (n := 3) (by decide) ha, show inB (nI b) 3 = true from inB_yes (n := 3) (by decide) hb_]; rfl
          refine lv_aload hx hb dX7_at_35 (lv_at hl 0 rfl) ?_
          refine gf_X7_112 hx hb hts hown hK hH hGi rfl dX7_at_37 ?_
          refine lv_iload_n hx hb dX7_at_40 rfl (lv_at hl 3 rfl) ?_
          refine lv_iconst (v := 3) hx hb dX7_at_41 (by decide) ?_
          refine lv_imul hx hb dX7_at_42 ?_
          refine lv_topi (fun v5 ev5 => ?_)
          replace ev5 : v5 = nI (3 * a) := ev5.trans (by rw [Int32.mul_comm]; exact m_4k3 a)
          subst ev5
          refine lv_iload_n hx hb dX7_at_43 rfl (lv_at hl 4 rfl) ?_
          refine lv_iadd hx hb dX7_at_44 ?_
          refine lv_topi (fun v6 ev6 => ?_)
          replace ev6 : v6 = nI (3 * a + b) := ev6.trans (nI_add _ _)
          subst ev6
          refine hm_callS (rest := []) (k := 1) q7_123 q3_26 q1_24 q3_27 nm_X0_tileAt rfl hx hb hml hown hts hK hO hS hH hl.1 (c_X0_tileAt Γ l (gs i).2.1 (3 * a + b) f (tl_mono ht31 (by decide)) (by omega)) ⟨Nat.le_of_ble_eq_true rfl, Nat.le_of_ble_eq_true rfl⟩ ⟨Nat.le_of_ble_eq_true rfl, Nat.le_of_ble_eq_true rfl⟩ rfl (Nat.le_of_ble_eq_true rfl) dX7_at_45 (fun v_ f_ H locs hp_ hH hS => ?_)
          obtain ⟨rfl, ef_⟩ := hp_
          rw [ef_] at hH
          clear ef_
          refine W.eq (g2 := F0 m 48 ls [.int (nI ((gs i).2.1 (3 * a + b)))]) rfl ?_
          exact vx_ret (hm_iret hx hb hr hlocks hS hH (⟨by rw [hb1]; (try rw [hix]); rw [hb2]; rfl, by rw [hix, ix_nI (by omega), ix_nI (by omega)], hC, hm_kd.rf⟩) (Nat.le_of_ble_eq_true rfl) (Nat.le_of_ble_eq_true rfl) dX7_at_48)
        · exact hm_thr hx hb hst hml hl.1 hown q2_8 q1_12 (text := "there is no such cell") (by decide) xA_IA (by decide +kernel) hts hK hO hS hH dX7_at_25 dX7_at_28 dX7_at_29 dX7_at_31 dX7_at_34 hout hlocks (by have hb0 : (inB v1 3 && inB v2 3) = false := (by rw [show inB v2 3 = false from inB_no (n := 3) (by decide) (rng_hi c4 (by decide))]; exact Bool.and_false _); exact ⟨by rw [hb1]; (try rw [hix]); rw [hb0]; exact (show (2 : Int32) ≠ 0 by decide), by rw [hb1]; (try rw [hix]); rw [hb0]; exact (Or.inr (Or.inl ⟨rfl, rfl⟩)), hC, hm_kd.rf⟩) (Nat.le_of_ble_eq_true rfl) (Nat.le_of_ble_eq_true rfl) (Nat.le_of_ble_eq_true rfl) (Nat.le_of_ble_eq_true rfl) (Nat.le_of_ble_eq_true rfl) (Nat.le_of_ble_eq_true rfl)

