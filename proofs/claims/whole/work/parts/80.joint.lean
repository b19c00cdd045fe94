/-! pairs of calls: what both sides answer -/
theorem kz1 {a : Bool} (h : (if a then 0 else 1 : Int32) = 0) : a = true := by revert h; cases a <;> decide
theorem kz2 {a b : Bool} (h : (if a then (if b then 0 else 2) else 1 : Int32) = 0) : a = true ∧ b = true := by revert h; cases a <;> cases b <;> decide
theorem kz4 {a b c d : Bool} (h : (if a then (if b then (if c then (if d then 0 else 4) else 3) else 2) else 1 : Int32) = 0) : a = true ∧ b = true ∧ c = true ∧ d = true := by revert h; cases a <;> cases b <;> cases c <;> cases d <;> decide
theorem kz5 {a b c d e : Bool} (h : (if a then (if b then (if c then (if d then (if e then 0 else 5) else 4) else 3) else 2) else 1 : Int32) = 0) : a = true ∧ b = true ∧ c = true ∧ d = true ∧ e = true := by revert h; cases a <;> cases b <;> cases c <;> cases d <;> cases e <;> decide
theorem joinC {Γ : Gm} {f f1 f2 : Hm} {m0 o oD : Nat} {r : Nat → Nat} {th : Int32} {K : Nat → EV} {kp : Nat} {ck msh msm mso : Int32} {np : Nat} {mon : Nat → Int32} {ng : Nat} {gs : Nat → GS} {nt : Nat} {ts : Nat → TR} {lim : Int32} {rf sp : Int64} {rr : Nat} {g0 g : Nat → Int64} {gD : Nat → UInt64} (hM : MW Γ f m0 r th K kp ck msh msm mso np mon ng gs nt ts lim rf sp rr) (ho : f o = some (eJ Γ 1 g0)) (hoD : f oD = some (eF Γ 1 gD)) (h1 : hm_kO o Γ f f1) (g1 : f1 o = some (eJ Γ 1 g)) (h2 : hm_k (mS m0 r) f1 f2) : hm_kd kC Γ f1 f2 ∧ f2 o = some (eJ Γ 1 g) ∧ f2 oD = some (eF Γ 1 gD) := by
  have hM1 := hM.kpO ho h1
  have hD1 : f1 oD = some (eF Γ 1 gD) := h1 _ _ (hm_ne hoD ho (fun q => by injection q with q; injection q with _ q; injection q with _ q; cases q)) hoD rfl
  exact ⟨hM1.kcl h2, h2 _ _ (hM1.apart g1) g1, h2 _ _ (hM1.apart hD1) hD1⟩
theorem sx_of {d : Bool} (h : (!d) = true) : d = false := by cases d; rfl; cases h
set_option maxHeartbeats 2000000 in
theorem j_score {Γ : Gm} {f f1 f2 : Hm} {x0 m0 o oD n : Nat} {r : Nat → Nat} {th : Int32} {K : Nat → EV} {kp : Nat} {ck msh msm mso : Int32} {mf : Nat → Int32} {E : Nat → EV} {cn us : Int32} {so sh sm : Int64} {np : Nat} {mon : Nat → Int32} {ng : Nat} {gs : Nat → GS} {nt : Nat} {ts : Nat → TR} {lim : Int32} {rf sp : Int64} {rr : Nat} {v0 : Int32} {g0 : Nat → Int64} {gD : Nat → UInt64} {v w : Option Value} (h34 : gC Γ 3 ≠ gC Γ 4) (hn : n ≤ 511) (hI : INV n K kp ck msh msm mso mf E cn us so sh sm np mon ng gs nt ts lim rf sp rr) (hM : MW Γ f m0 r th K kp ck msh msm mso np mon ng gs nt ts lim rf sp rr) (hrI : rI r) (ho : f o = some (eJ Γ 1 g0)) (hoD : f oD = some (eF Γ 1 gD)) (h1 : wP (if inB v0 (nI ng) then 0 else 1) ((gs (ix v0)).2.2.2.1) Γ o f (fun f' => CW Γ f' x0 mf E cn us so sh sm np mon ng gs nt ts lim rf sp rr) (fun f' => CW Γ f' x0 mf E cn us so sh sm np mon ng gs nt ts lim rf sp rr) v f1) (h2 : mP (if inB v0 (nI ng) then 0 else 1) ((gs (ix v0)).2.2.2.1) (mS m0 r) f1 (fun f' => MW Γ f' m0 r 0 K kp ck msh msm mso np mon ng gs nt ts lim rf sp rr) (fun f' => MW Γ f' m0 r ((if inB v0 (nI ng) then 0 else 1)) K kp ck msh msm mso np mon ng gs nt ts lim rf sp rr) w f2) : ∃ k b : Int32, v = some (.int k) ∧ w = some (.int b) ∧ RS Γ f2 x0 m0 o oD r (n + 1) k b := by
  obtain ⟨h1a, hO⟩ := h1
  obtain ⟨h2a, hS⟩ := h2
  have hgs := hI.gok (by omega)
  rcases h1a with ⟨k0, rfl, ⟨g, go, gA⟩, hN⟩ | ⟨k0, rfl, ⟨g, go⟩, hN⟩
  · have hKK : _ = (0 : Int32) := k0
    rcases h2a with ⟨k1, rfl, hN2⟩ | ⟨k1, -, -⟩
    · obtain ⟨q1, q2, q3⟩ := joinC hM ho hoD hO go hS
      have hN3 := hN2
      obtain ⟨⟨dz, gd, hi_, mi, fh, hm⟩, -⟩ := hN3
      exact ⟨0, _, rfl, rfl, ⟨_, _, _, _, _, _, _, _, _, _, _, _, _, _, _, _, _, hm⟩, ⟨g, q2, fun _ => gA.trans (congrArg Int32.toInt64 (Eq.symm (rfl)))⟩, ⟨_, _, _, _, _, _, _, _, _, _, _, _, _, _, _, _, _, _, _, _, _, _, _, _, CW.kpt hN h34 q1, hN2, hI.mono, hrI, ⟨g, q2⟩, ⟨gD, q3⟩⟩⟩
    · exact absurd ((rfl).trans k0) k1
  · rcases h2a with ⟨k1, -, -⟩ | ⟨k1, ⟨x, rfl⟩, hN2⟩
    · exact absurd ((Eq.symm (rfl)).trans k1) k0
    · obtain ⟨q1, q2, q3⟩ := joinC hM ho hoD hO go hS
      have hN3 := hN2
      obtain ⟨⟨dz, gd, hi_, mi, fh, hm⟩, -⟩ := hN3
      skip
      exact ⟨_, _, rfl, rfl, ⟨_, _, _, _, _, _, _, _, _, _, _, _, _, _, _, _, _, hm⟩, ⟨g, q2, fun z => absurd z k0⟩, ⟨_, _, _, _, _, _, _, _, _, _, _, _, _, _, _, _, _, _, _, _, _, _, _, _, CW.kpt hN h34 q1, hN2, hI.mono, hrI, ⟨g, q2⟩, ⟨gD, q3⟩⟩⟩
set_option maxHeartbeats 2000000 in
theorem j_pushes {Γ : Gm} {f f1 f2 : Hm} {x0 m0 o oD n : Nat} {r : Nat → Nat} {th : Int32} {K : Nat → EV} {kp : Nat} {ck msh msm mso : Int32} {mf : Nat → Int32} {E : Nat → EV} {cn us : Int32} {so sh sm : Int64} {np : Nat} {mon : Nat → Int32} {ng : Nat} {gs : Nat → GS} {nt : Nat} {ts : Nat → TR} {lim : Int32} {rf sp : Int64} {rr : Nat} {v0 : Int32} {g0 : Nat → Int64} {gD : Nat → UInt64} {v w : Option Value} (h34 : gC Γ 3 ≠ gC Γ 4) (hn : n ≤ 511) (hI : INV n K kp ck msh msm mso mf E cn us so sh sm np mon ng gs nt ts lim rf sp rr) (hM : MW Γ f m0 r th K kp ck msh msm mso np mon ng gs nt ts lim rf sp rr) (hrI : rI r) (ho : f o = some (eJ Γ 1 g0)) (hoD : f oD = some (eF Γ 1 gD)) (h1 : wP (if inB v0 (nI ng) then 0 else 1) ((gs (ix v0)).2.2.2.2.1) Γ o f (fun f' => CW Γ f' x0 mf E cn us so sh sm np mon ng gs nt ts lim rf sp rr) (fun f' => CW Γ f' x0 mf E cn us so sh sm np mon ng gs nt ts lim rf sp rr) v f1) (h2 : mP (if inB v0 (nI ng) then 0 else 1) ((gs (ix v0)).2.2.2.2.1) (mS m0 r) f1 (fun f' => MW Γ f' m0 r 0 K kp ck msh msm mso np mon ng gs nt ts lim rf sp rr) (fun f' => MW Γ f' m0 r ((if inB v0 (nI ng) then 0 else 1)) K kp ck msh msm mso np mon ng gs nt ts lim rf sp rr) w f2) : ∃ k b : Int32, v = some (.int k) ∧ w = some (.int b) ∧ RS Γ f2 x0 m0 o oD r (n + 1) k b := by
  obtain ⟨h1a, hO⟩ := h1
  obtain ⟨h2a, hS⟩ := h2
  have hgs := hI.gok (by omega)
  rcases h1a with ⟨k0, rfl, ⟨g, go, gA⟩, hN⟩ | ⟨k0, rfl, ⟨g, go⟩, hN⟩
  · have hKK : _ = (0 : Int32) := k0
    rcases h2a with ⟨k1, rfl, hN2⟩ | ⟨k1, -, -⟩
    · obtain ⟨q1, q2, q3⟩ := joinC hM ho hoD hO go hS
      have hN3 := hN2
      obtain ⟨⟨dz, gd, hi_, mi, fh, hm⟩, -⟩ := hN3
      exact ⟨0, _, rfl, rfl, ⟨_, _, _, _, _, _, _, _, _, _, _, _, _, _, _, _, _, hm⟩, ⟨g, q2, fun _ => gA.trans (congrArg Int32.toInt64 (Eq.symm (rfl)))⟩, ⟨_, _, _, _, _, _, _, _, _, _, _, _, _, _, _, _, _, _, _, _, _, _, _, _, CW.kpt hN h34 q1, hN2, hI.mono, hrI, ⟨g, q2⟩, ⟨gD, q3⟩⟩⟩
    · exact absurd ((rfl).trans k0) k1
  · rcases h2a with ⟨k1, -, -⟩ | ⟨k1, ⟨x, rfl⟩, hN2⟩
    · exact absurd ((Eq.symm (rfl)).trans k1) k0
    · obtain ⟨q1, q2, q3⟩ := joinC hM ho hoD hO go hS
      have hN3 := hN2
      obtain ⟨⟨dz, gd, hi_, mi, fh, hm⟩, -⟩ := hN3
      skip
      exact ⟨_, _, rfl, rfl, ⟨_, _, _, _, _, _, _, _, _, _, _, _, _, _, _, _, _, hm⟩, ⟨g, q2, fun z => absurd z k0⟩, ⟨_, _, _, _, _, _, _, _, _, _, _, _, _, _, _, _, _, _, _, _, _, _, _, _, CW.kpt hN h34 q1, hN2, hI.mono, hrI, ⟨g, q2⟩, ⟨gD, q3⟩⟩⟩
set_option maxHeartbeats 2000000 in
theorem j_follows {Γ : Gm} {f f1 f2 : Hm} {x0 m0 o oD n : Nat} {r : Nat → Nat} {th : Int32} {K : Nat → EV} {kp : Nat} {ck msh msm mso : Int32} {mf : Nat → Int32} {E : Nat → EV} {cn us : Int32} {so sh sm : Int64} {np : Nat} {mon : Nat → Int32} {ng : Nat} {gs : Nat → GS} {nt : Nat} {ts : Nat → TR} {lim : Int32} {rf sp : Int64} {rr : Nat} {v0 : Int32} {g0 : Nat → Int64} {gD : Nat → UInt64} {v w : Option Value} (h34 : gC Γ 3 ≠ gC Γ 4) (hn : n ≤ 511) (hI : INV n K kp ck msh msm mso mf E cn us so sh sm np mon ng gs nt ts lim rf sp rr) (hM : MW Γ f m0 r th K kp ck msh msm mso np mon ng gs nt ts lim rf sp rr) (hrI : rI r) (ho : f o = some (eJ Γ 1 g0)) (hoD : f oD = some (eF Γ 1 gD)) (h1 : wP (if inB v0 (nI ng) then 0 else 1) ((gs (ix v0)).2.2.2.2.2.2.1) Γ o f (fun f' => CW Γ f' x0 mf E cn us so sh sm np mon ng gs nt ts lim rf sp rr) (fun f' => CW Γ f' x0 mf E cn us so sh sm np mon ng gs nt ts lim rf sp rr) v f1) (h2 : mP (if inB v0 (nI ng) then 0 else 1) ((gs (ix v0)).2.2.2.2.2.2.1) (mS m0 r) f1 (fun f' => MW Γ f' m0 r 0 K kp ck msh msm mso np mon ng gs nt ts lim rf sp rr) (fun f' => MW Γ f' m0 r ((if inB v0 (nI ng) then 0 else 1)) K kp ck msh msm mso np mon ng gs nt ts lim rf sp rr) w f2) : ∃ k b : Int32, v = some (.int k) ∧ w = some (.int b) ∧ RS Γ f2 x0 m0 o oD r (n + 1) k b := by
  obtain ⟨h1a, hO⟩ := h1
  obtain ⟨h2a, hS⟩ := h2
  have hgs := hI.gok (by omega)
  rcases h1a with ⟨k0, rfl, ⟨g, go, gA⟩, hN⟩ | ⟨k0, rfl, ⟨g, go⟩, hN⟩
  · have hKK : _ = (0 : Int32) := k0
    rcases h2a with ⟨k1, rfl, hN2⟩ | ⟨k1, -, -⟩
    · obtain ⟨q1, q2, q3⟩ := joinC hM ho hoD hO go hS
      have hN3 := hN2
      obtain ⟨⟨dz, gd, hi_, mi, fh, hm⟩, -⟩ := hN3
      exact ⟨0, _, rfl, rfl, ⟨_, _, _, _, _, _, _, _, _, _, _, _, _, _, _, _, _, hm⟩, ⟨g, q2, fun _ => gA.trans (congrArg Int32.toInt64 (Eq.symm (rfl)))⟩, ⟨_, _, _, _, _, _, _, _, _, _, _, _, _, _, _, _, _, _, _, _, _, _, _, _, CW.kpt hN h34 q1, hN2, hI.mono, hrI, ⟨g, q2⟩, ⟨gD, q3⟩⟩⟩
    · exact absurd ((rfl).trans k0) k1
  · rcases h2a with ⟨k1, -, -⟩ | ⟨k1, ⟨x, rfl⟩, hN2⟩
    · exact absurd ((Eq.symm (rfl)).trans k1) k0
    · obtain ⟨q1, q2, q3⟩ := joinC hM ho hoD hO go hS
      have hN3 := hN2
      obtain ⟨⟨dz, gd, hi_, mi, fh, hm⟩, -⟩ := hN3
      skip
      exact ⟨_, _, rfl, rfl, ⟨_, _, _, _, _, _, _, _, _, _, _, _, _, _, _, _, _, hm⟩, ⟨g, q2, fun z => absurd z k0⟩, ⟨_, _, _, _, _, _, _, _, _, _, _, _, _, _, _, _, _, _, _, _, _, _, _, _, CW.kpt hN h34 q1, hN2, hI.mono, hrI, ⟨g, q2⟩, ⟨gD, q3⟩⟩⟩
set_option maxHeartbeats 2000000 in
theorem j_isVoid {Γ : Gm} {f f1 f2 : Hm} {x0 m0 o oD n : Nat} {r : Nat → Nat} {th : Int32} {K : Nat → EV} {kp : Nat} {ck msh msm mso : Int32} {mf : Nat → Int32} {E : Nat → EV} {cn us : Int32} {so sh sm : Int64} {np : Nat} {mon : Nat → Int32} {ng : Nat} {gs : Nat → GS} {nt : Nat} {ts : Nat → TR} {lim : Int32} {rf sp : Int64} {rr : Nat} {v0 : Int32} {g0 : Nat → Int64} {gD : Nat → UInt64} {v w : Option Value} (h34 : gC Γ 3 ≠ gC Γ 4) (hn : n ≤ 511) (hI : INV n K kp ck msh msm mso mf E cn us so sh sm np mon ng gs nt ts lim rf sp rr) (hM : MW Γ f m0 r th K kp ck msh msm mso np mon ng gs nt ts lim rf sp rr) (hrI : rI r) (ho : f o = some (eJ Γ 1 g0)) (hoD : f oD = some (eF Γ 1 gD)) (h1 : wP (if inB v0 (nI ng) then 0 else 1) (bI (gs (ix v0)).2.2.2.2.2.2.2.2) Γ o f (fun f' => CW Γ f' x0 mf E cn us so sh sm np mon ng gs nt ts lim rf sp rr) (fun f' => CW Γ f' x0 mf E cn us so sh sm np mon ng gs nt ts lim rf sp rr) v f1) (h2 : mP (if inB v0 (nI ng) then 0 else 1) (bI (gs (ix v0)).2.2.2.2.2.2.2.2) (mS m0 r) f1 (fun f' => MW Γ f' m0 r 0 K kp ck msh msm mso np mon ng gs nt ts lim rf sp rr) (fun f' => MW Γ f' m0 r ((if inB v0 (nI ng) then 0 else 1)) K kp ck msh msm mso np mon ng gs nt ts lim rf sp rr) w f2) : ∃ k b : Int32, v = some (.int k) ∧ w = some (.int b) ∧ RS Γ f2 x0 m0 o oD r (n + 1) k b := by
  obtain ⟨h1a, hO⟩ := h1
  obtain ⟨h2a, hS⟩ := h2
  have hgs := hI.gok (by omega)
  rcases h1a with ⟨k0, rfl, ⟨g, go, gA⟩, hN⟩ | ⟨k0, rfl, ⟨g, go⟩, hN⟩
  · have hKK : _ = (0 : Int32) := k0
    rcases h2a with ⟨k1, rfl, hN2⟩ | ⟨k1, -, -⟩
    · obtain ⟨q1, q2, q3⟩ := joinC hM ho hoD hO go hS
      have hN3 := hN2
      obtain ⟨⟨dz, gd, hi_, mi, fh, hm⟩, -⟩ := hN3
      exact ⟨0, _, rfl, rfl, ⟨_, _, _, _, _, _, _, _, _, _, _, _, _, _, _, _, _, hm⟩, ⟨g, q2, fun _ => gA.trans (congrArg Int32.toInt64 (Eq.symm (rfl)))⟩, ⟨_, _, _, _, _, _, _, _, _, _, _, _, _, _, _, _, _, _, _, _, _, _, _, _, CW.kpt hN h34 q1, hN2, hI.mono, hrI, ⟨g, q2⟩, ⟨gD, q3⟩⟩⟩
    · exact absurd ((rfl).trans k0) k1
  · rcases h2a with ⟨k1, -, -⟩ | ⟨k1, ⟨x, rfl⟩, hN2⟩
    · exact absurd ((Eq.symm (rfl)).trans k1) k0
    · obtain ⟨q1, q2, q3⟩ := joinC hM ho hoD hO go hS
      have hN3 := hN2
      obtain ⟨⟨dz, gd, hi_, mi, fh, hm⟩, -⟩ := hN3
      skip
      exact ⟨_, _, rfl, rfl, ⟨_, _, _, _, _, _, _, _, _, _, _, _, _, _, _, _, _, hm⟩, ⟨g, q2, fun z => absurd z k0⟩, ⟨_, _, _, _, _, _, _, _, _, _, _, _, _, _, _, _, _, _, _, _, _, _, _, _, CW.kpt hN h34 q1, hN2, hI.mono, hrI, ⟨g, q2⟩, ⟨gD, q3⟩⟩⟩
set_option maxHeartbeats 2000000 in
theorem j_isOver {Γ : Gm} {f f1 f2 : Hm} {x0 m0 o oD n : Nat} {r : Nat → Nat} {th : Int32} {K : Nat → EV} {kp : Nat} {ck msh msm mso : Int32} {mf : Nat → Int32} {E : Nat → EV} {cn us : Int32} {so sh sm : Int64} {np : Nat} {mon : Nat → Int32} {ng : Nat} {gs : Nat → GS} {nt : Nat} {ts : Nat → TR} {lim : Int32} {rf sp : Int64} {rr : Nat} {v0 : Int32} {g0 : Nat → Int64} {gD : Nat → UInt64} {v w : Option Value} (h34 : gC Γ 3 ≠ gC Γ 4) (hn : n ≤ 511) (hI : INV n K kp ck msh msm mso mf E cn us so sh sm np mon ng gs nt ts lim rf sp rr) (hM : MW Γ f m0 r th K kp ck msh msm mso np mon ng gs nt ts lim rf sp rr) (hrI : rI r) (ho : f o = some (eJ Γ 1 g0)) (hoD : f oD = some (eF Γ 1 gD)) (h1 : wP (if inB v0 (nI ng) then 0 else 1) (bI (ovN (gs (ix v0)).2.1)) Γ o f (fun f' => CW Γ f' x0 mf E cn us so sh sm np mon ng gs nt ts lim rf sp rr) (fun f' => CW Γ f' x0 mf E cn us so sh sm np mon ng gs nt ts lim rf sp rr) v f1) (h2 : mP (if inB v0 (nI ng) then 0 else 1) (bI (ovN (gs (ix v0)).2.1)) (mS m0 r) f1 (fun f' => MW Γ f' m0 r 0 K kp ck msh msm mso np mon ng gs nt ts lim rf sp rr) (fun f' => MW Γ f' m0 r ((if inB v0 (nI ng) then 0 else 1)) K kp ck msh msm mso np mon ng gs nt ts lim rf sp rr) w f2) : ∃ k b : Int32, v = some (.int k) ∧ w = some (.int b) ∧ RS Γ f2 x0 m0 o oD r (n + 1) k b := by
  obtain ⟨h1a, hO⟩ := h1
  obtain ⟨h2a, hS⟩ := h2
  have hgs := hI.gok (by omega)
  rcases h1a with ⟨k0, rfl, ⟨g, go, gA⟩, hN⟩ | ⟨k0, rfl, ⟨g, go⟩, hN⟩
  · have hKK : _ = (0 : Int32) := k0
    rcases h2a with ⟨k1, rfl, hN2⟩ | ⟨k1, -, -⟩
    · obtain ⟨q1, q2, q3⟩ := joinC hM ho hoD hO go hS
      have hN3 := hN2
      obtain ⟨⟨dz, gd, hi_, mi, fh, hm⟩, -⟩ := hN3
      exact ⟨0, _, rfl, rfl, ⟨_, _, _, _, _, _, _, _, _, _, _, _, _, _, _, _, _, hm⟩, ⟨g, q2, fun _ => gA.trans (congrArg Int32.toInt64 (Eq.symm (rfl)))⟩, ⟨_, _, _, _, _, _, _, _, _, _, _, _, _, _, _, _, _, _, _, _, _, _, _, _, CW.kpt hN h34 q1, hN2, hI.mono, hrI, ⟨g, q2⟩, ⟨gD, q3⟩⟩⟩
    · exact absurd ((rfl).trans k0) k1
  · rcases h2a with ⟨k1, -, -⟩ | ⟨k1, ⟨x, rfl⟩, hN2⟩
    · exact absurd ((Eq.symm (rfl)).trans k1) k0
    · obtain ⟨q1, q2, q3⟩ := joinC hM ho hoD hO go hS
      have hN3 := hN2
      obtain ⟨⟨dz, gd, hi_, mi, fh, hm⟩, -⟩ := hN3
      skip
      exact ⟨_, _, rfl, rfl, ⟨_, _, _, _, _, _, _, _, _, _, _, _, _, _, _, _, _, hm⟩, ⟨g, q2, fun z => absurd z k0⟩, ⟨_, _, _, _, _, _, _, _, _, _, _, _, _, _, _, _, _, _, _, _, _, _, _, _, CW.kpt hN h34 q1, hN2, hI.mono, hrI, ⟨g, q2⟩, ⟨gD, q3⟩⟩⟩
set_option maxHeartbeats 2000000 in
theorem j_money {Γ : Gm} {f f1 f2 : Hm} {x0 m0 o oD n : Nat} {r : Nat → Nat} {th : Int32} {K : Nat → EV} {kp : Nat} {ck msh msm mso : Int32} {mf : Nat → Int32} {E : Nat → EV} {cn us : Int32} {so sh sm : Int64} {np : Nat} {mon : Nat → Int32} {ng : Nat} {gs : Nat → GS} {nt : Nat} {ts : Nat → TR} {lim : Int32} {rf sp : Int64} {rr : Nat} {v0 : Int32} {g0 : Nat → Int64} {gD : Nat → UInt64} {v w : Option Value} (h34 : gC Γ 3 ≠ gC Γ 4) (hn : n ≤ 511) (hI : INV n K kp ck msh msm mso mf E cn us so sh sm np mon ng gs nt ts lim rf sp rr) (hM : MW Γ f m0 r th K kp ck msh msm mso np mon ng gs nt ts lim rf sp rr) (hrI : rI r) (ho : f o = some (eJ Γ 1 g0)) (hoD : f oD = some (eF Γ 1 gD)) (h1 : wP (if inB v0 (nI np) then 0 else 1) (mon (ix v0)) Γ o f (fun f' => CW Γ f' x0 mf E cn us so sh sm np mon ng gs nt ts lim rf sp rr) (fun f' => CW Γ f' x0 mf E cn us so sh sm np mon ng gs nt ts lim rf sp rr) v f1) (h2 : mP (if inB v0 (nI np) then 0 else 1) (mon (ix v0)) (mS m0 r) f1 (fun f' => MW Γ f' m0 r 0 K kp ck msh msm mso np mon ng gs nt ts lim rf sp rr) (fun f' => MW Γ f' m0 r ((if inB v0 (nI np) then 0 else 1)) K kp ck msh msm mso np mon ng gs nt ts lim rf sp rr) w f2) : ∃ k b : Int32, v = some (.int k) ∧ w = some (.int b) ∧ RS Γ f2 x0 m0 o oD r (n + 1) k b := by
  obtain ⟨h1a, hO⟩ := h1
  obtain ⟨h2a, hS⟩ := h2
  have hgs := hI.gok (by omega)
  rcases h1a with ⟨k0, rfl, ⟨g, go, gA⟩, hN⟩ | ⟨k0, rfl, ⟨g, go⟩, hN⟩
  · have hKK : _ = (0 : Int32) := k0
    rcases h2a with ⟨k1, rfl, hN2⟩ | ⟨k1, -, -⟩
    · obtain ⟨q1, q2, q3⟩ := joinC hM ho hoD hO go hS
      have hN3 := hN2
      obtain ⟨⟨dz, gd, hi_, mi, fh, hm⟩, -⟩ := hN3
      exact ⟨0, _, rfl, rfl, ⟨_, _, _, _, _, _, _, _, _, _, _, _, _, _, _, _, _, hm⟩, ⟨g, q2, fun _ => gA.trans (congrArg Int32.toInt64 (Eq.symm (rfl)))⟩, ⟨_, _, _, _, _, _, _, _, _, _, _, _, _, _, _, _, _, _, _, _, _, _, _, _, CW.kpt hN h34 q1, hN2, hI.mono, hrI, ⟨g, q2⟩, ⟨gD, q3⟩⟩⟩
    · exact absurd ((rfl).trans k0) k1
  · rcases h2a with ⟨k1, -, -⟩ | ⟨k1, ⟨x, rfl⟩, hN2⟩
    · exact absurd ((Eq.symm (rfl)).trans k1) k0
    · obtain ⟨q1, q2, q3⟩ := joinC hM ho hoD hO go hS
      have hN3 := hN2
      obtain ⟨⟨dz, gd, hi_, mi, fh, hm⟩, -⟩ := hN3
      skip
      exact ⟨_, _, rfl, rfl, ⟨_, _, _, _, _, _, _, _, _, _, _, _, _, _, _, _, _, hm⟩, ⟨g, q2, fun z => absurd z k0⟩, ⟨_, _, _, _, _, _, _, _, _, _, _, _, _, _, _, _, _, _, _, _, _, _, _, _, CW.kpt hN h34 q1, hN2, hI.mono, hrI, ⟨g, q2⟩, ⟨gD, q3⟩⟩⟩
set_option maxHeartbeats 2000000 in
theorem j_playerOf {Γ : Gm} {f f1 f2 : Hm} {x0 m0 o oD n : Nat} {r : Nat → Nat} {th : Int32} {K : Nat → EV} {kp : Nat} {ck msh msm mso : Int32} {mf : Nat → Int32} {E : Nat → EV} {cn us : Int32} {so sh sm : Int64} {np : Nat} {mon : Nat → Int32} {ng : Nat} {gs : Nat → GS} {nt : Nat} {ts : Nat → TR} {lim : Int32} {rf sp : Int64} {rr : Nat} {v0 : Int32} {g0 : Nat → Int64} {gD : Nat → UInt64} {v w : Option Value} (h34 : gC Γ 3 ≠ gC Γ 4) (hn : n ≤ 511) (hI : INV n K kp ck msh msm mso mf E cn us so sh sm np mon ng gs nt ts lim rf sp rr) (hM : MW Γ f m0 r th K kp ck msh msm mso np mon ng gs nt ts lim rf sp rr) (hrI : rI r) (ho : f o = some (eJ Γ 1 g0)) (hoD : f oD = some (eF Γ 1 gD)) (h1 : wP (if inB v0 (nI nt) then 0 else 1) (nI (ts (ix v0)).1) Γ o f (fun f' => CW Γ f' x0 mf E cn us so sh sm np mon ng gs nt ts lim rf sp rr) (fun f' => CW Γ f' x0 mf E cn us so sh sm np mon ng gs nt ts lim rf sp rr) v f1) (h2 : mP (if inB v0 (nI nt) then 0 else 1) (nI (ts (ix v0)).1) (mS m0 r) f1 (fun f' => MW Γ f' m0 r 0 K kp ck msh msm mso np mon ng gs nt ts lim rf sp rr) (fun f' => MW Γ f' m0 r ((if inB v0 (nI nt) then 0 else 1)) K kp ck msh msm mso np mon ng gs nt ts lim rf sp rr) w f2) : ∃ k b : Int32, v = some (.int k) ∧ w = some (.int b) ∧ RS Γ f2 x0 m0 o oD r (n + 1) k b := by
  obtain ⟨h1a, hO⟩ := h1
  obtain ⟨h2a, hS⟩ := h2
  have hgs := hI.gok (by omega)
  rcases h1a with ⟨k0, rfl, ⟨g, go, gA⟩, hN⟩ | ⟨k0, rfl, ⟨g, go⟩, hN⟩
  · have hKK : _ = (0 : Int32) := k0
    rcases h2a with ⟨k1, rfl, hN2⟩ | ⟨k1, -, -⟩
    · obtain ⟨q1, q2, q3⟩ := joinC hM ho hoD hO go hS
      have hN3 := hN2
      obtain ⟨⟨dz, gd, hi_, mi, fh, hm⟩, -⟩ := hN3
      exact ⟨0, _, rfl, rfl, ⟨_, _, _, _, _, _, _, _, _, _, _, _, _, _, _, _, _, hm⟩, ⟨g, q2, fun _ => gA.trans (congrArg Int32.toInt64 (Eq.symm (rfl)))⟩, ⟨_, _, _, _, _, _, _, _, _, _, _, _, _, _, _, _, _, _, _, _, _, _, _, _, CW.kpt hN h34 q1, hN2, hI.mono, hrI, ⟨g, q2⟩, ⟨gD, q3⟩⟩⟩
    · exact absurd ((rfl).trans k0) k1
  · rcases h2a with ⟨k1, -, -⟩ | ⟨k1, ⟨x, rfl⟩, hN2⟩
    · exact absurd ((Eq.symm (rfl)).trans k1) k0
    · obtain ⟨q1, q2, q3⟩ := joinC hM ho hoD hO go hS
      have hN3 := hN2
      obtain ⟨⟨dz, gd, hi_, mi, fh, hm⟩, -⟩ := hN3
      skip
      exact ⟨_, _, rfl, rfl, ⟨_, _, _, _, _, _, _, _, _, _, _, _, _, _, _, _, _, hm⟩, ⟨g, q2, fun z => absurd z k0⟩, ⟨_, _, _, _, _, _, _, _, _, _, _, _, _, _, _, _, _, _, _, _, _, _, _, _, CW.kpt hN h34 q1, hN2, hI.mono, hrI, ⟨g, q2⟩, ⟨gD, q3⟩⟩⟩
set_option maxHeartbeats 2000000 in
theorem j_pushOf {Γ : Gm} {f f1 f2 : Hm} {x0 m0 o oD n : Nat} {r : Nat → Nat} {th : Int32} {K : Nat → EV} {kp : Nat} {ck msh msm mso : Int32} {mf : Nat → Int32} {E : Nat → EV} {cn us : Int32} {so sh sm : Int64} {np : Nat} {mon : Nat → Int32} {ng : Nat} {gs : Nat → GS} {nt : Nat} {ts : Nat → TR} {lim : Int32} {rf sp : Int64} {rr : Nat} {v0 : Int32} {g0 : Nat → Int64} {gD : Nat → UInt64} {v w : Option Value} (h34 : gC Γ 3 ≠ gC Γ 4) (hn : n ≤ 511) (hI : INV n K kp ck msh msm mso mf E cn us so sh sm np mon ng gs nt ts lim rf sp rr) (hM : MW Γ f m0 r th K kp ck msh msm mso np mon ng gs nt ts lim rf sp rr) (hrI : rI r) (ho : f o = some (eJ Γ 1 g0)) (hoD : f oD = some (eF Γ 1 gD)) (h1 : wP (if inB v0 (nI nt) then 0 else 1) ((ts (ix v0)).2.2.2) Γ o f (fun f' => CW Γ f' x0 mf E cn us so sh sm np mon ng gs nt ts lim rf sp rr) (fun f' => CW Γ f' x0 mf E cn us so sh sm np mon ng gs nt ts lim rf sp rr) v f1) (h2 : mP (if inB v0 (nI nt) then 0 else 1) ((ts (ix v0)).2.2.2) (mS m0 r) f1 (fun f' => MW Γ f' m0 r 0 K kp ck msh msm mso np mon ng gs nt ts lim rf sp rr) (fun f' => MW Γ f' m0 r ((if inB v0 (nI nt) then 0 else 1)) K kp ck msh msm mso np mon ng gs nt ts lim rf sp rr) w f2) : ∃ k b : Int32, v = some (.int k) ∧ w = some (.int b) ∧ RS Γ f2 x0 m0 o oD r (n + 1) k b := by
  obtain ⟨h1a, hO⟩ := h1
  obtain ⟨h2a, hS⟩ := h2
  have hgs := hI.gok (by omega)
  rcases h1a with ⟨k0, rfl, ⟨g, go, gA⟩, hN⟩ | ⟨k0, rfl, ⟨g, go⟩, hN⟩
  · have hKK : _ = (0 : Int32) := k0
    rcases h2a with ⟨k1, rfl, hN2⟩ | ⟨k1, -, -⟩
    · obtain ⟨q1, q2, q3⟩ := joinC hM ho hoD hO go hS
      have hN3 := hN2
      obtain ⟨⟨dz, gd, hi_, mi, fh, hm⟩, -⟩ := hN3
      exact ⟨0, _, rfl, rfl, ⟨_, _, _, _, _, _, _, _, _, _, _, _, _, _, _, _, _, hm⟩, ⟨g, q2, fun _ => gA.trans (congrArg Int32.toInt64 (Eq.symm (rfl)))⟩, ⟨_, _, _, _, _, _, _, _, _, _, _, _, _, _, _, _, _, _, _, _, _, _, _, _, CW.kpt hN h34 q1, hN2, hI.mono, hrI, ⟨g, q2⟩, ⟨gD, q3⟩⟩⟩
    · exact absurd ((rfl).trans k0) k1
  · rcases h2a with ⟨k1, -, -⟩ | ⟨k1, ⟨x, rfl⟩, hN2⟩
    · exact absurd ((Eq.symm (rfl)).trans k1) k0
    · obtain ⟨q1, q2, q3⟩ := joinC hM ho hoD hO go hS
      have hN3 := hN2
      obtain ⟨⟨dz, gd, hi_, mi, fh, hm⟩, -⟩ := hN3
      skip
      exact ⟨_, _, rfl, rfl, ⟨_, _, _, _, _, _, _, _, _, _, _, _, _, _, _, _, _, hm⟩, ⟨g, q2, fun z => absurd z k0⟩, ⟨_, _, _, _, _, _, _, _, _, _, _, _, _, _, _, _, _, _, _, _, _, _, _, _, CW.kpt hN h34 q1, hN2, hI.mono, hrI, ⟨g, q2⟩, ⟨gD, q3⟩⟩⟩
set_option maxHeartbeats 2000000 in
theorem j_at {Γ : Gm} {f f1 f2 : Hm} {x0 m0 o oD n : Nat} {r : Nat → Nat} {th : Int32} {K : Nat → EV} {kp : Nat} {ck msh msm mso : Int32} {mf : Nat → Int32} {E : Nat → EV} {cn us : Int32} {so sh sm : Int64} {np : Nat} {mon : Nat → Int32} {ng : Nat} {gs : Nat → GS} {nt : Nat} {ts : Nat → TR} {lim : Int32} {rf sp : Int64} {rr : Nat} {v0 v1 v2 : Int32} {g0 : Nat → Int64} {gD : Nat → UInt64} {v w : Option Value} (h34 : gC Γ 3 ≠ gC Γ 4) (hn : n ≤ 511) (hI : INV n K kp ck msh msm mso mf E cn us so sh sm np mon ng gs nt ts lim rf sp rr) (hM : MW Γ f m0 r th K kp ck msh msm mso np mon ng gs nt ts lim rf sp rr) (hrI : rI r) (ho : f o = some (eJ Γ 1 g0)) (hoD : f oD = some (eF Γ 1 gD)) (h1 : wP (if inB v0 (nI ng) then (if (inB v1 3 && inB v2 3) then 0 else 2) else 1) (nI ((gs (ix v0)).2.1 (3 * ix v1 + ix v2))) Γ o f (fun f' => CW Γ f' x0 mf E cn us so sh sm np mon ng gs nt ts lim rf sp rr) (fun f' => CW Γ f' x0 mf E cn us so sh sm np mon ng gs nt ts lim rf sp rr) v f1) (h2 : mP (if inB v0 (nI ng) then (if (inB v1 3 && inB v2 3) then 0 else 2) else 1) (nI ((gs (ix v0)).2.1 (3 * ix v1 + ix v2))) (mS m0 r) f1 (fun f' => MW Γ f' m0 r 0 K kp ck msh msm mso np mon ng gs nt ts lim rf sp rr) (fun f' => MW Γ f' m0 r ((if inB v0 (nI ng) then (if (inB v1 3 && inB v2 3) then 0 else 2) else 1)) K kp ck msh msm mso np mon ng gs nt ts lim rf sp rr) w f2) : ∃ k b : Int32, v = some (.int k) ∧ w = some (.int b) ∧ RS Γ f2 x0 m0 o oD r (n + 1) k b := by
  obtain ⟨h1a, hO⟩ := h1
  obtain ⟨h2a, hS⟩ := h2
  have hgs := hI.gok (by omega)
  rcases h1a with ⟨k0, rfl, ⟨g, go, gA⟩, hN⟩ | ⟨k0, rfl, ⟨g, go⟩, hN⟩
  · have hKK : _ = (0 : Int32) := k0
    rcases h2a with ⟨k1, rfl, hN2⟩ | ⟨k1, -, -⟩
    · obtain ⟨q1, q2, q3⟩ := joinC hM ho hoD hO go hS
      have hN3 := hN2
      obtain ⟨⟨dz, gd, hi_, mi, fh, hm⟩, -⟩ := hN3
      exact ⟨0, _, rfl, rfl, ⟨_, _, _, _, _, _, _, _, _, _, _, _, _, _, _, _, _, hm⟩, ⟨g, q2, fun _ => gA.trans (congrArg Int32.toInt64 (Eq.symm (rfl)))⟩, ⟨_, _, _, _, _, _, _, _, _, _, _, _, _, _, _, _, _, _, _, _, _, _, _, _, CW.kpt hN h34 q1, hN2, hI.mono, hrI, ⟨g, q2⟩, ⟨gD, q3⟩⟩⟩
    · exact absurd ((rfl).trans k0) k1
  · rcases h2a with ⟨k1, -, -⟩ | ⟨k1, ⟨x, rfl⟩, hN2⟩
    · exact absurd ((Eq.symm (rfl)).trans k1) k0
    · obtain ⟨q1, q2, q3⟩ := joinC hM ho hoD hO go hS
      have hN3 := hN2
      obtain ⟨⟨dz, gd, hi_, mi, fh, hm⟩, -⟩ := hN3
      skip
      exact ⟨_, _, rfl, rfl, ⟨_, _, _, _, _, _, _, _, _, _, _, _, _, _, _, _, _, hm⟩, ⟨g, q2, fun z => absurd z k0⟩, ⟨_, _, _, _, _, _, _, _, _, _, _, _, _, _, _, _, _, _, _, _, _, _, _, _, CW.kpt hN h34 q1, hN2, hI.mono, hrI, ⟨g, q2⟩, ⟨gD, q3⟩⟩⟩
set_option maxHeartbeats 2000000 in
theorem j_canPush {Γ : Gm} {f f1 f2 : Hm} {x0 m0 o oD n : Nat} {r : Nat → Nat} {th : Int32} {K : Nat → EV} {kp : Nat} {ck msh msm mso : Int32} {mf : Nat → Int32} {E : Nat → EV} {cn us : Int32} {so sh sm : Int64} {np : Nat} {mon : Nat → Int32} {ng : Nat} {gs : Nat → GS} {nt : Nat} {ts : Nat → TR} {lim : Int32} {rf sp : Int64} {rr : Nat} {v0 v1 : Int32} {g0 : Nat → Int64} {gD : Nat → UInt64} {v w : Option Value} (h34 : gC Γ 3 ≠ gC Γ 4) (hn : n ≤ 511) (hI : INV n K kp ck msh msm mso mf E cn us so sh sm np mon ng gs nt ts lim rf sp rr) (hM : MW Γ f m0 r th K kp ck msh msm mso np mon ng gs nt ts lim rf sp rr) (hrI : rI r) (ho : f o = some (eJ Γ 1 g0)) (hoD : f oD = some (eF Γ 1 gD)) (h1 : wP (if inB v0 (nI ng) then (if inB v1 4 then 0 else 2) else 1) (bI (goN (gs (ix v0)).2.1 (ix v1))) Γ o f (fun f' => CW Γ f' x0 mf E cn us so sh sm np mon ng gs nt ts lim rf sp rr) (fun f' => CW Γ f' x0 mf E cn us so sh sm np mon ng gs nt ts lim rf sp rr) v f1) (h2 : mP (if inB v0 (nI ng) then (if inB v1 4 then 0 else 2) else 1) (bI (goN (gs (ix v0)).2.1 (ix v1))) (mS m0 r) f1 (fun f' => MW Γ f' m0 r 0 K kp ck msh msm mso np mon ng gs nt ts lim rf sp rr) (fun f' => MW Γ f' m0 r ((if inB v0 (nI ng) then (if inB v1 4 then 0 else 2) else 1)) K kp ck msh msm mso np mon ng gs nt ts lim rf sp rr) w f2) : ∃ k b : Int32, v = some (.int k) ∧ w = some (.int b) ∧ RS Γ f2 x0 m0 o oD r (n + 1) k b := by
  obtain ⟨h1a, hO⟩ := h1
  obtain ⟨h2a, hS⟩ := h2
  have hgs := hI.gok (by omega)
  rcases h1a with ⟨k0, rfl, ⟨g, go, gA⟩, hN⟩ | ⟨k0, rfl, ⟨g, go⟩, hN⟩
  · have hKK : _ = (0 : Int32) := k0
    rcases h2a with ⟨k1, rfl, hN2⟩ | ⟨k1, -, -⟩
    · obtain ⟨q1, q2, q3⟩ := joinC hM ho hoD hO go hS
      have hN3 := hN2
      obtain ⟨⟨dz, gd, hi_, mi, fh, hm⟩, -⟩ := hN3
      exact ⟨0, _, rfl, rfl, ⟨_, _, _, _, _, _, _, _, _, _, _, _, _, _, _, _, _, hm⟩, ⟨g, q2, fun _ => gA.trans (congrArg Int32.toInt64 (Eq.symm (rfl)))⟩, ⟨_, _, _, _, _, _, _, _, _, _, _, _, _, _, _, _, _, _, _, _, _, _, _, _, CW.kpt hN h34 q1, hN2, hI.mono, hrI, ⟨g, q2⟩, ⟨gD, q3⟩⟩⟩
    · exact absurd ((rfl).trans k0) k1
  · rcases h2a with ⟨k1, -, -⟩ | ⟨k1, ⟨x, rfl⟩, hN2⟩
    · exact absurd ((Eq.symm (rfl)).trans k1) k0
    · obtain ⟨q1, q2, q3⟩ := joinC hM ho hoD hO go hS
      have hN3 := hN2
      obtain ⟨⟨dz, gd, hi_, mi, fh, hm⟩, -⟩ := hN3
      skip
      exact ⟨_, _, rfl, rfl, ⟨_, _, _, _, _, _, _, _, _, _, _, _, _, _, _, _, _, hm⟩, ⟨g, q2, fun z => absurd z k0⟩, ⟨_, _, _, _, _, _, _, _, _, _, _, _, _, _, _, _, _, _, _, _, _, _, _, _, CW.kpt hN h34 q1, hN2, hI.mono, hrI, ⟨g, q2⟩, ⟨gD, q3⟩⟩⟩
set_option maxHeartbeats 2000000 in
theorem j_worth {Γ : Gm} {f f1 f2 : Hm} {x0 m0 o oD n : Nat} {r : Nat → Nat} {th : Int32} {K : Nat → EV} {kp : Nat} {ck msh msm mso : Int32} {mf : Nat → Int32} {E : Nat → EV} {cn us : Int32} {so sh sm : Int64} {np : Nat} {mon : Nat → Int32} {ng : Nat} {gs : Nat → GS} {nt : Nat} {ts : Nat → TR} {lim : Int32} {rf sp : Int64} {rr : Nat} {v0 v1 : Int32} {g0 : Nat → Int64} {gD : Nat → UInt64} {v w : Option Value} (h34 : gC Γ 3 ≠ gC Γ 4) (hn : n ≤ 511) (hI : INV n K kp ck msh msm mso mf E cn us so sh sm np mon ng gs nt ts lim rf sp rr) (hM : MW Γ f m0 r th K kp ck msh msm mso np mon ng gs nt ts lim rf sp rr) (hrI : rI r) (ho : f o = some (eJ Γ 1 g0)) (hoD : f oD = some (eF Γ 1 gD)) (h1 : wP (if inB v0 (nI ng) then (if inR v1 0 4 then 0 else 2) else 1) (nI (wp (ix v1) (gs (ix v0)).2.1 (gs (ix v0)).2.2.1).1) Γ o f (fun f' => CW Γ f' x0 mf E cn us so sh sm np mon ng gs nt ts lim rf sp rr) (fun f' => CW Γ f' x0 mf E cn us so sh sm np mon ng gs nt ts lim rf sp rr) v f1) (h2 : mP (if inB v0 (nI ng) then (if inR v1 0 4 then 0 else 2) else 1) (nI (wp (ix v1) (gs (ix v0)).2.1 (gs (ix v0)).2.2.1).1) (mS m0 r) f1 (fun f' => MW Γ f' m0 r 0 K kp ck msh msm mso np mon ng gs nt ts lim rf sp rr) (fun f' => MW Γ f' m0 r ((if inB v0 (nI ng) then (if inR v1 0 4 then 0 else 2) else 1)) K kp ck msh msm mso np mon ng gs nt ts lim rf sp rr) w f2) : ∃ k b : Int32, v = some (.int k) ∧ w = some (.int b) ∧ RS Γ f2 x0 m0 o oD r (n + 1) k b := by
  obtain ⟨h1a, hO⟩ := h1
  obtain ⟨h2a, hS⟩ := h2
  have hgs := hI.gok (by omega)
  rcases h1a with ⟨k0, rfl, ⟨g, go, gA⟩, hN⟩ | ⟨k0, rfl, ⟨g, go⟩, hN⟩
  · have hKK : _ = (0 : Int32) := k0
    rcases h2a with ⟨k1, rfl, hN2⟩ | ⟨k1, -, -⟩
    · obtain ⟨q1, q2, q3⟩ := joinC hM ho hoD hO go hS
      have hN3 := hN2
      obtain ⟨⟨dz, gd, hi_, mi, fh, hm⟩, -⟩ := hN3
      exact ⟨0, _, rfl, rfl, ⟨_, _, _, _, _, _, _, _, _, _, _, _, _, _, _, _, _, hm⟩, ⟨g, q2, fun _ => gA.trans (congrArg Int32.toInt64 (Eq.symm (rfl)))⟩, ⟨_, _, _, _, _, _, _, _, _, _, _, _, _, _, _, _, _, _, _, _, _, _, _, _, CW.kpt hN h34 q1, hN2, hI.mono, hrI, ⟨g, q2⟩, ⟨gD, q3⟩⟩⟩
    · exact absurd ((rfl).trans k0) k1
  · rcases h2a with ⟨k1, -, -⟩ | ⟨k1, ⟨x, rfl⟩, hN2⟩
    · exact absurd ((Eq.symm (rfl)).trans k1) k0
    · obtain ⟨q1, q2, q3⟩ := joinC hM ho hoD hO go hS
      have hN3 := hN2
      obtain ⟨⟨dz, gd, hi_, mi, fh, hm⟩, -⟩ := hN3
      skip
      exact ⟨_, _, rfl, rfl, ⟨_, _, _, _, _, _, _, _, _, _, _, _, _, _, _, _, _, hm⟩, ⟨g, q2, fun z => absurd z k0⟩, ⟨_, _, _, _, _, _, _, _, _, _, _, _, _, _, _, _, _, _, _, _, _, _, _, _, CW.kpt hN h34 q1, hN2, hI.mono, hrI, ⟨g, q2⟩, ⟨gD, q3⟩⟩⟩
set_option maxHeartbeats 2000000 in
theorem j_setLimit {Γ : Gm} {f f1 f2 : Hm} {x0 m0 o oD n : Nat} {r : Nat → Nat} {th : Int32} {K : Nat → EV} {kp : Nat} {ck msh msm mso : Int32} {mf : Nat → Int32} {E : Nat → EV} {cn us : Int32} {so sh sm : Int64} {np : Nat} {mon : Nat → Int32} {ng : Nat} {gs : Nat → GS} {nt : Nat} {ts : Nat → TR} {lim : Int32} {rf sp : Int64} {rr : Nat} {v0 : Int32} {g0 : Nat → Int64} {gD : Nat → UInt64} {v w : Option Value} (h34 : gC Γ 3 ≠ gC Γ 4) (hn : n ≤ 511) (hI : INV n K kp ck msh msm mso mf E cn us so sh sm np mon ng gs nt ts lim rf sp rr) (hM : MW Γ f m0 r th K kp ck msh msm mso np mon ng gs nt ts lim rf sp rr) (hrI : rI r) (ho : f o = some (eJ Γ 1 g0)) (hoD : f oD = some (eF Γ 1 gD)) (h1 : wP (if inR v0 1 9 then 0 else 1) (lim) Γ o f (fun f' => CW Γ f' x0 mf E cn us so sh sm np mon ng gs nt ts v0 rf sp rr) (fun f' => CW Γ f' x0 mf E cn us so sh sm np mon ng gs nt ts lim rf sp rr) v f1) (h2 : mP (if inR v0 1 9 then 0 else 1) (lim) (mS m0 r) f1 (fun f' => MW Γ f' m0 r 0 K kp ck msh msm mso np mon ng gs nt ts v0 rf sp rr) (fun f' => MW Γ f' m0 r ((if inR v0 1 9 then 0 else 1)) K kp ck msh msm mso np mon ng gs nt ts lim rf sp rr) w f2) : ∃ k b : Int32, v = some (.int k) ∧ w = some (.int b) ∧ RS Γ f2 x0 m0 o oD r (n + 1) k b := by
  obtain ⟨h1a, hO⟩ := h1
  obtain ⟨h2a, hS⟩ := h2
  have hgs := hI.gok (by omega)
  rcases h1a with ⟨k0, rfl, ⟨g, go, gA⟩, hN⟩ | ⟨k0, rfl, ⟨g, go⟩, hN⟩
  · have hKK : _ = (0 : Int32) := k0
    rcases h2a with ⟨k1, rfl, hN2⟩ | ⟨k1, -, -⟩
    · obtain ⟨q1, q2, q3⟩ := joinC hM ho hoD hO go hS
      have hN3 := hN2
      obtain ⟨⟨dz, gd, hi_, mi, fh, hm⟩, -⟩ := hN3
      exact ⟨0, _, rfl, rfl, ⟨_, _, _, _, _, _, _, _, _, _, _, _, _, _, _, _, _, hm⟩, ⟨g, q2, fun _ => gA.trans (congrArg Int32.toInt64 (Eq.symm (rfl)))⟩, ⟨_, _, _, _, _, _, _, _, _, _, _, _, _, _, _, _, _, _, _, _, _, _, _, _, CW.kpt hN h34 q1, hN2, (hI.limit _), hrI, ⟨g, q2⟩, ⟨gD, q3⟩⟩⟩
    · exact absurd ((rfl).trans k0) k1
  · rcases h2a with ⟨k1, -, -⟩ | ⟨k1, ⟨x, rfl⟩, hN2⟩
    · exact absurd ((Eq.symm (rfl)).trans k1) k0
    · obtain ⟨q1, q2, q3⟩ := joinC hM ho hoD hO go hS
      have hN3 := hN2
      obtain ⟨⟨dz, gd, hi_, mi, fh, hm⟩, -⟩ := hN3
      skip
      exact ⟨_, _, rfl, rfl, ⟨_, _, _, _, _, _, _, _, _, _, _, _, _, _, _, _, _, hm⟩, ⟨g, q2, fun z => absurd z k0⟩, ⟨_, _, _, _, _, _, _, _, _, _, _, _, _, _, _, _, _, _, _, _, _, _, _, _, CW.kpt hN h34 q1, hN2, hI.mono, hrI, ⟨g, q2⟩, ⟨gD, q3⟩⟩⟩
set_option maxHeartbeats 2000000 in
theorem j_addPlayer {Γ : Gm} {f f1 f2 : Hm} {x0 m0 o oD n : Nat} {r : Nat → Nat} {th : Int32} {K : Nat → EV} {kp : Nat} {ck msh msm mso : Int32} {mf : Nat → Int32} {E : Nat → EV} {cn us : Int32} {so sh sm : Int64} {np : Nat} {mon : Nat → Int32} {ng : Nat} {gs : Nat → GS} {nt : Nat} {ts : Nat → TR} {lim : Int32} {rf sp : Int64} {rr : Nat} {v0 : Int32} {g0 : Nat → Int64} {gD : Nat → UInt64} {v w : Option Value} (h34 : gC Γ 3 ≠ gC Γ 4) (hn : n ≤ 511) (hI : INV n K kp ck msh msm mso mf E cn us so sh sm np mon ng gs nt ts lim rf sp rr) (hM : MW Γ f m0 r th K kp ck msh msm mso np mon ng gs nt ts lim rf sp rr) (hrI : rI r) (ho : f o = some (eJ Γ 1 g0)) (hoD : f oD = some (eF Γ 1 gD)) (h1 : wP (if inR v0 0 9999 then (if decide (np < 4) then 0 else 2) else 1) (nI np) Γ o f (fun f' => CW Γ f' x0 ((upd mf np v0)) E cn us so sh sm ((np + 1)) ((upd mon np v0)) ng gs nt ts lim rf sp rr) (fun f' => CW Γ f' x0 mf E cn us so sh sm np mon ng gs nt ts lim rf sp rr) v f1) (h2 : mP (if inR v0 0 9999 then (if decide (np < 4) then 0 else 2) else 1) (nI np) (mS m0 r) f1 (fun f' => MW Γ f' m0 r 0 K kp ck msh msm mso ((np + 1)) ((upd mon np v0)) ng gs nt ts lim rf sp rr) (fun f' => MW Γ f' m0 r ((if inR v0 0 9999 then (if decide (np < 4) then 0 else 2) else 1)) K kp ck msh msm mso np mon ng gs nt ts lim rf sp rr) w f2) : ∃ k b : Int32, v = some (.int k) ∧ w = some (.int b) ∧ RS Γ f2 x0 m0 o oD r (n + 1) k b := by
  obtain ⟨h1a, hO⟩ := h1
  obtain ⟨h2a, hS⟩ := h2
  have hgs := hI.gok (by omega)
  rcases h1a with ⟨k0, rfl, ⟨g, go, gA⟩, hN⟩ | ⟨k0, rfl, ⟨g, go⟩, hN⟩
  · have hKK : _ = (0 : Int32) := k0
    rcases h2a with ⟨k1, rfl, hN2⟩ | ⟨k1, -, -⟩
    · obtain ⟨q1, q2, q3⟩ := joinC hM ho hoD hO go hS
      have hN3 := hN2
      obtain ⟨⟨dz, gd, hi_, mi, fh, hm⟩, -⟩ := hN3
      exact ⟨0, _, rfl, rfl, ⟨_, _, _, _, _, _, _, _, _, _, _, _, _, _, _, _, _, hm⟩, ⟨g, q2, fun _ => gA.trans (congrArg Int32.toInt64 (Eq.symm (rfl)))⟩, ⟨_, _, _, _, _, _, _, _, _, _, _, _, _, _, _, _, _, _, _, _, _, _, _, _, CW.kpt hN h34 q1, hN2, (hI.addPlayer (of_decide_eq_true (kz2 k0).2) _), hrI, ⟨g, q2⟩, ⟨gD, q3⟩⟩⟩
    · exact absurd ((rfl).trans k0) k1
  · rcases h2a with ⟨k1, -, -⟩ | ⟨k1, ⟨x, rfl⟩, hN2⟩
    · exact absurd ((Eq.symm (rfl)).trans k1) k0
    · obtain ⟨q1, q2, q3⟩ := joinC hM ho hoD hO go hS
      have hN3 := hN2
      obtain ⟨⟨dz, gd, hi_, mi, fh, hm⟩, -⟩ := hN3
      skip
      exact ⟨_, _, rfl, rfl, ⟨_, _, _, _, _, _, _, _, _, _, _, _, _, _, _, _, _, hm⟩, ⟨g, q2, fun z => absurd z k0⟩, ⟨_, _, _, _, _, _, _, _, _, _, _, _, _, _, _, _, _, _, _, _, _, _, _, _, CW.kpt hN h34 q1, hN2, hI.mono, hrI, ⟨g, q2⟩, ⟨gD, q3⟩⟩⟩
set_option maxHeartbeats 2000000 in
theorem j_open {Γ : Gm} {f f1 f2 : Hm} {x0 m0 o oD n : Nat} {r : Nat → Nat} {th : Int32} {K : Nat → EV} {kp : Nat} {ck msh msm mso : Int32} {mf : Nat → Int32} {E : Nat → EV} {cn us : Int32} {so sh sm : Int64} {np : Nat} {mon : Nat → Int32} {ng : Nat} {gs : Nat → GS} {nt : Nat} {ts : Nat → TR} {lim : Int32} {rf sp : Int64} {rr : Nat} {v0 v1 : Int32} {g0 : Nat → Int64} {gD : Nat → UInt64} {v w : Option Value} (h34 : gC Γ 3 ≠ gC Γ 4) (hn : n ≤ 511) (hI : INV n K kp ck msh msm mso mf E cn us so sh sm np mon ng gs nt ts lim rf sp rr) (hM : MW Γ f m0 r th K kp ck msh msm mso np mon ng gs nt ts lim rf sp rr) (hrI : rI r) (ho : f o = some (eJ Γ 1 g0)) (hoD : f oD = some (eF Γ 1 gD)) (h1 : wP (if inB v0 (nI np) then (if decide (0 ≤ v1) then (if decide (ng < 8) then 0 else 3) else 2) else 1) (nI ng) Γ o f (fun f' => CW Γ f' x0 mf E cn us so sh sm np mon ((ng + 1)) ((setG gs ng (ix v0, newB (ix v1), newZ (ix v1), 0, 0, 0, 0, 0, false))) nt ts lim rf sp rr) (fun f' => CW Γ f' x0 mf E cn us so sh sm np mon ng gs nt ts lim rf sp rr) v f1) (h2 : mP (if inB v0 (nI np) then (if decide (0 ≤ v1) then (if decide (ng < 8) then 0 else 3) else 2) else 1) (nI ng) (mS m0 r) f1 (fun f' => MW Γ f' m0 r 0 K kp ck msh msm mso np mon ((ng + 1)) ((setG gs ng (ix v0, newB (ix v1), newZ (ix v1), 0, 0, 0, 0, 0, false))) nt ts lim rf sp rr) (fun f' => MW Γ f' m0 r ((if inB v0 (nI np) then (if decide (0 ≤ v1) then (if decide (ng < 8) then 0 else 3) else 2) else 1)) K kp ck msh msm mso np mon ng gs nt ts lim rf sp rr) w f2) : ∃ k b : Int32, v = some (.int k) ∧ w = some (.int b) ∧ RS Γ f2 x0 m0 o oD r (n + 1) k b := by
  obtain ⟨h1a, hO⟩ := h1
  obtain ⟨h2a, hS⟩ := h2
  have hgs := hI.gok (by omega)
  rcases h1a with ⟨k0, rfl, ⟨g, go, gA⟩, hN⟩ | ⟨k0, rfl, ⟨g, go⟩, hN⟩
  · have hKK : _ = (0 : Int32) := k0
    rcases h2a with ⟨k1, rfl, hN2⟩ | ⟨k1, -, -⟩
    · obtain ⟨q1, q2, q3⟩ := joinC hM ho hoD hO go hS
      obtain ⟨a1, a2, a3⟩ := kh0 k0
      have hng8 : ng < 8 := of_decide_eq_true a3
      obtain ⟨hb, -⟩ := id hI
      obtain ⟨j, hj, e0⟩ := (inB_iff (by omega)).mp a1
      have hjx : ix v0 = j := by rw [e0]; exact ix_nI (by omega)
      have hN3 := hN2
      obtain ⟨⟨dz, gd, hi_, mi, fh, hm⟩, -⟩ := hN3
      exact ⟨0, _, rfl, rfl, ⟨_, _, _, _, _, _, _, _, _, _, _, _, _, _, _, _, _, hm⟩, ⟨g, q2, fun _ => gA.trans (congrArg Int32.toInt64 (Eq.symm (rfl)))⟩, ⟨_, _, _, _, _, _, _, _, _, _, _, _, _, _, _, _, _, _, _, _, _, _, _, _, CW.kpt hN h34 q1, hN2, (hI.newG hng8 (by rw [hjx]; exact hj)), hrI, ⟨g, q2⟩, ⟨gD, q3⟩⟩⟩
    · exact absurd ((rfl).trans k0) k1
  · rcases h2a with ⟨k1, -, -⟩ | ⟨k1, ⟨x, rfl⟩, hN2⟩
    · exact absurd ((Eq.symm (rfl)).trans k1) k0
    · obtain ⟨q1, q2, q3⟩ := joinC hM ho hoD hO go hS
      have hN3 := hN2
      obtain ⟨⟨dz, gd, hi_, mi, fh, hm⟩, -⟩ := hN3
      skip
      exact ⟨_, _, rfl, rfl, ⟨_, _, _, _, _, _, _, _, _, _, _, _, _, _, _, _, _, hm⟩, ⟨g, q2, fun z => absurd z k0⟩, ⟨_, _, _, _, _, _, _, _, _, _, _, _, _, _, _, _, _, _, _, _, _, _, _, _, CW.kpt hN h34 q1, hN2, hI.mono, hrI, ⟨g, q2⟩, ⟨gD, q3⟩⟩⟩
set_option maxHeartbeats 2000000 in
theorem j_price {Γ : Gm} {f f1 f2 : Hm} {x0 m0 o oD n : Nat} {r : Nat → Nat} {th : Int32} {K : Nat → EV} {kp : Nat} {ck msh msm mso : Int32} {mf : Nat → Int32} {E : Nat → EV} {cn us : Int32} {so sh sm : Int64} {np : Nat} {mon : Nat → Int32} {ng : Nat} {gs : Nat → GS} {nt : Nat} {ts : Nat → TR} {lim : Int32} {rf sp : Int64} {rr : Nat} {v0 v1 : Int32} {g0 : Nat → Int64} {gD : Nat → UInt64} {v w : Option Value} (h34 : gC Γ 3 ≠ gC Γ 4) (hn : n ≤ 511) (hI : INV n K kp ck msh msm mso mf E cn us so sh sm np mon ng gs nt ts lim rf sp rr) (hM : MW Γ f m0 r th K kp ck msh msm mso np mon ng gs nt ts lim rf sp rr) (hrI : rI r) (ho : f o = some (eJ Γ 1 g0)) (hoD : f oD = some (eF Γ 1 gD)) (h1 : wP (if inB v0 (nI ng) then (if inR v1 1 4 then (if (!(gs (ix v0)).2.2.2.2.2.2.2.2 && !ovN (gs (ix v0)).2.1) then 0 else 3) else 2) else 1) ((mxI (trS 64 (nI rr) (ix v1) (gs (ix v0)).2.1 (gs (ix v0)).2.2.1 (E, cn, us, 0, 0)).2.2.2.2 1)) Γ o f (fun f' => CW Γ f' x0 mf E cn us so sh sm np mon ng gs nt ts lim rf sp rr) (fun f' => CW Γ f' x0 mf E cn us so sh sm np mon ng gs nt ts lim rf sp rr) v f1) (h2 : mP ((if inB v0 (nI ng) then (if inR v1 1 4 then (if (!(gs (ix v0)).2.2.2.2.2.2.2.2 && !ovN (gs (ix v0)).2.1) then 0 else 3) else 2) else 1 : Int32)) ((mxI (trM true rr (ix v1) (gs (ix v0)).2.1 (gs (ix v0)).2.2.1 (K, kp, ck, 0, 0)).2.2.2.2 1)) (mS m0 r) f1 (fun f' => ∃ K', (∀ j, j < 64 → K' j = K j) ∧ MW Γ f' m0 r 0 K' kp ck msh msm mso np mon ng gs nt ts lim rf sp rr) (fun f' => MW Γ f' m0 r ((if inB v0 (nI ng) then (if inR v1 1 4 then (if (!(gs (ix v0)).2.2.2.2.2.2.2.2 && !ovN (gs (ix v0)).2.1) then 0 else 3) else 2) else 1 : Int32)) K kp ck msh msm mso np mon ng gs nt ts lim rf sp rr) w f2) : ∃ k b : Int32, v = some (.int k) ∧ w = some (.int b) ∧ RS Γ f2 x0 m0 o oD r (n + 1) k b := by
  obtain ⟨h1a, hO⟩ := h1
  obtain ⟨h2a, hS⟩ := h2
  have hgs := hI.gok (by omega)
  rcases h1a with ⟨k0, rfl, ⟨g, go, gA⟩, hN⟩ | ⟨k0, rfl, ⟨g, go⟩, hN⟩
  · have hKK : _ = (0 : Int32) := k0
    rcases h2a with ⟨k1, rfl, hN2⟩ | ⟨k1, -, -⟩
    · obtain ⟨q1, q2, q3⟩ := joinC hM ho hoD hO go hS
      obtain ⟨a1, a2, a3⟩ := kh0 k0
      obtain ⟨hb, -⟩ := id hI
      obtain ⟨i, hi, rfl⟩ := (inB_iff (by omega)).mp a1
      obtain ⟨d, hd, rfl⟩ := dep_inR a2
      have hix : ix (nI i) = i := ix_nI (by omega)
      have hid : ix (nI d) = d := ix_nI (by omega)
      obtain ⟨K', hK', hN2⟩ := hN2
      have hN3 := hN2
      obtain ⟨⟨dz, gd, hi_, mi, fh, hm⟩, -⟩ := hN3
      exact ⟨0, _, rfl, rfl, ⟨_, _, _, _, _, _, _, _, _, _, _, _, _, _, _, _, _, hm⟩, ⟨g, q2, fun _ => gA.trans (congrArg Int32.toInt64 (Eq.symm (by rw [hix, hid, hI.price (by omega) hd.2 (by have := (hgs i hi).2.1; omega)])))⟩, ⟨_, _, _, _, _, _, _, _, _, _, _, _, _, _, _, _, _, _, _, _, _, _, _, _, CW.kpt hN h34 q1, hN2, (hI.ext hK'), hrI, ⟨g, q2⟩, ⟨gD, q3⟩⟩⟩
    · exact absurd ((rfl).trans k0) k1
  · rcases h2a with ⟨k1, -, -⟩ | ⟨k1, ⟨x, rfl⟩, hN2⟩
    · exact absurd ((Eq.symm (rfl)).trans k1) k0
    · obtain ⟨q1, q2, q3⟩ := joinC hM ho hoD hO go hS
      have hN3 := hN2
      obtain ⟨⟨dz, gd, hi_, mi, fh, hm⟩, -⟩ := hN3
      skip
      exact ⟨_, _, rfl, rfl, ⟨_, _, _, _, _, _, _, _, _, _, _, _, _, _, _, _, _, hm⟩, ⟨g, q2, fun z => absurd z k0⟩, ⟨_, _, _, _, _, _, _, _, _, _, _, _, _, _, _, _, _, _, _, _, _, _, _, _, CW.kpt hN h34 q1, hN2, hI.mono, hrI, ⟨g, q2⟩, ⟨gD, q3⟩⟩⟩
set_option maxHeartbeats 2000000 in
theorem j_unpin {Γ : Gm} {f f1 f2 : Hm} {x0 m0 o oD n : Nat} {r : Nat → Nat} {th : Int32} {K : Nat → EV} {kp : Nat} {ck msh msm mso : Int32} {mf : Nat → Int32} {E : Nat → EV} {cn us : Int32} {so sh sm : Int64} {np : Nat} {mon : Nat → Int32} {ng : Nat} {gs : Nat → GS} {nt : Nat} {ts : Nat → TR} {lim : Int32} {rf sp : Int64} {rr : Nat} {v0 : Int32} {g0 : Nat → Int64} {gD : Nat → UInt64} {v w : Option Value} (h34 : gC Γ 3 ≠ gC Γ 4) (hn : n ≤ 511) (hI : INV n K kp ck msh msm mso mf E cn us so sh sm np mon ng gs nt ts lim rf sp rr) (hM : MW Γ f m0 r th K kp ck msh msm mso np mon ng gs nt ts lim rf sp rr) (hrI : rI r) (ho : f o = some (eJ Γ 1 g0)) (hoD : f oD = some (eF Γ 1 gD)) (h1 : wP (if inB v0 (nI ng) then 0 else 1) (nI (cntP (fun j => bt (E j).2.2.2.2.2.2 (ix v0)) 64)) Γ o f (fun f' => CW Γ f' x0 mf ((unpK E (ix v0))) cn us so sh sm np mon ng gs nt ts lim rf sp rr) (fun f' => CW Γ f' x0 mf E cn us so sh sm np mon ng gs nt ts lim rf sp rr) v f1) (h2 : mP (if inB v0 (nI ng) then 0 else 1) (nI (cntP (fun j => bt (K j).2.2.2.2.2.2 (ix v0)) kp)) (mS m0 r) f1 (fun f' => MW Γ f' m0 r 0 ((mixE (unpK K (ix v0)) K kp)) kp ck msh msm mso np mon ng gs nt ts lim rf sp rr) (fun f' => MW Γ f' m0 r ((if inB v0 (nI ng) then 0 else 1)) K kp ck msh msm mso np mon ng gs nt ts lim rf sp rr) w f2) : ∃ k b : Int32, v = some (.int k) ∧ w = some (.int b) ∧ RS Γ f2 x0 m0 o oD r (n + 1) k b := by
  obtain ⟨h1a, hO⟩ := h1
  obtain ⟨h2a, hS⟩ := h2
  have hgs := hI.gok (by omega)
  rcases h1a with ⟨k0, rfl, ⟨g, go, gA⟩, hN⟩ | ⟨k0, rfl, ⟨g, go⟩, hN⟩
  · have hKK : _ = (0 : Int32) := k0
    rcases h2a with ⟨k1, rfl, hN2⟩ | ⟨k1, -, -⟩
    · obtain ⟨q1, q2, q3⟩ := joinC hM ho hoD hO go hS
      have hN3 := hN2
      obtain ⟨⟨dz, gd, hi_, mi, fh, hm⟩, -⟩ := hN3
      exact ⟨0, _, rfl, rfl, ⟨_, _, _, _, _, _, _, _, _, _, _, _, _, _, _, _, _, hm⟩, ⟨g, q2, fun _ => gA.trans (congrArg Int32.toInt64 (Eq.symm (by obtain ⟨-, -, -, -, -, ⟨⟨σ, hσ⟩, -⟩, -⟩ := hI; rw [cnt_bt hσ])))⟩, ⟨_, _, _, _, _, _, _, _, _, _, _, _, _, _, _, _, _, _, _, _, _, _, _, _, CW.kpt hN h34 q1, hN2, (hI.unpin _), hrI, ⟨g, q2⟩, ⟨gD, q3⟩⟩⟩
    · exact absurd ((rfl).trans k0) k1
  · rcases h2a with ⟨k1, -, -⟩ | ⟨k1, ⟨x, rfl⟩, hN2⟩
    · exact absurd ((Eq.symm (rfl)).trans k1) k0
    · obtain ⟨q1, q2, q3⟩ := joinC hM ho hoD hO go hS
      have hN3 := hN2
      obtain ⟨⟨dz, gd, hi_, mi, fh, hm⟩, -⟩ := hN3
      skip
      exact ⟨_, _, rfl, rfl, ⟨_, _, _, _, _, _, _, _, _, _, _, _, _, _, _, _, _, hm⟩, ⟨g, q2, fun z => absurd z k0⟩, ⟨_, _, _, _, _, _, _, _, _, _, _, _, _, _, _, _, _, _, _, _, _, _, _, _, CW.kpt hN h34 q1, hN2, hI.mono, hrI, ⟨g, q2⟩, ⟨gD, q3⟩⟩⟩
