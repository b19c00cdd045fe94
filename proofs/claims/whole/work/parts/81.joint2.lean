/-! pairs of calls: the rest -/
theorem kq4 {a b c p q : Bool} (h : a = true → b = true → p = q) : (if a then (if b then (if c then (if p then 0 else 4) else 3) else 2) else 1 : Int32) = (if a then (if b then (if c then (if q then 0 else 4) else 3) else 2) else 1) := by
  cases a with
  | false => rfl
  | true =>
    cases b with
    | false => rfl
    | true => rw [h rfl rfl]
theorem kq5 {a b c p q e : Bool} (h : a = true → b = true → p = q) : (if a then (if b then (if c then (if p then (if e then 0 else 5) else 4) else 3) else 2) else 1 : Int32) = (if a then (if b then (if c then (if q then (if e then 0 else 5) else 4) else 3) else 2) else 1) := by
  cases a with
  | false => rfl
  | true =>
    cases b with
    | false => rfl
    | true => rw [h rfl rfl]
theorem gsp1 (a : Nat) (b : Nat → Nat) (c : Nat) (d e f g h : Int32) (v : Bool) : ((a, b, c, d, e, f, g, h, v) : GS).1 = a := rfl
theorem gsp2 (a : Nat) (b : Nat → Nat) (c : Nat) (d e f g h : Int32) (v : Bool) : ((a, b, c, d, e, f, g, h, v) : GS).2.1 = b := rfl
theorem gsp3 (a : Nat) (b : Nat → Nat) (c : Nat) (d e f g h : Int32) (v : Bool) : ((a, b, c, d, e, f, g, h, v) : GS).2.2.1 = c := rfl
theorem gsp8 (a : Nat) (b : Nat → Nat) (c : Nat) (d e f g h : Int32) (v : Bool) : ((a, b, c, d, e, f, g, h, v) : GS).2.2.2.2.2.2.2.1 = h := rfl
theorem gsp9 (a : Nat) (b : Nat → Nat) (c : Nat) (d e f g h : Int32) (v : Bool) : ((a, b, c, d, e, f, g, h, v) : GS).2.2.2.2.2.2.2.2 = v := rfl
theorem and_l {a b : Bool} (h : (a && b) = true) : a = true := by revert h; cases a <;> cases b <;> decide
set_option maxHeartbeats 2000000 in
theorem j_push {Γ : Gm} {f f1 f2 : Hm} {x0 m0 o oD n : Nat} {r : Nat → Nat} {th : Int32} {K : Nat → EV} {kp : Nat} {ck msh msm mso : Int32} {mf : Nat → Int32} {E : Nat → EV} {cn us : Int32} {so sh sm : Int64} {np : Nat} {mon : Nat → Int32} {ng : Nat} {gs : Nat → GS} {nt : Nat} {ts : Nat → TR} {lim : Int32} {rf sp : Int64} {rr : Nat} {v0 v1 : Int32} {g0 : Nat → Int64} {gD : Nat → UInt64} {v w : Option Value} (h34 : gC Γ 3 ≠ gC Γ 4) (hn : n ≤ 511) (hI : INV n K kp ck msh msm mso mf E cn us so sh sm np mon ng gs nt ts lim rf sp rr) (hM : MW Γ f m0 r th K kp ck msh msm mso np mon ng gs nt ts lim rf sp rr) (hrI : rI r) (ho : f o = some (eJ Γ 1 g0)) (hoD : f oD = some (eF Γ 1 gD)) (h1 : wP (if inB v0 (nI ng) then (if inB v1 4 then (if (!(gs (ix v0)).2.2.2.2.2.2.2.2 && goN (gs (ix v0)).2.1 (ix v1)) then 0 else 3) else 2) else 1) (nI (gainT (gs (ix v0)).2.1 (ix v1))) Γ o f (fun f' => CW Γ f' x0 mf E cn us so sh sm np mon ng ((setG gs (ix v0) ((gs (ix v0)).1, drawT (pushT (gs (ix v0)).2.1 (ix v1)) (gs (ix v0)).2.2.1, nxt (nxt (gs (ix v0)).2.2.1), (gs (ix v0)).2.2.2.1 + nI (gainT (gs (ix v0)).2.1 (ix v1)), (gs (ix v0)).2.2.2.2.1 + 1, (if (folB (fun i => tx5 (ts i)) (b5 (gs (ix v0)).2.1) (nI (gs (ix v0)).2.2.1) (nI (gs (ix v0)).1) v1 nt) then (gs (ix v0)).2.2.2.2.2.1 + 1 else 0), mxI (gs (ix v0)).2.2.2.2.2.2.1 (if (folB (fun i => tx5 (ts i)) (b5 (gs (ix v0)).2.1) (nI (gs (ix v0)).2.2.1) (nI (gs (ix v0)).1) v1 nt) then (gs (ix v0)).2.2.2.2.2.1 + 1 else 0), (gs (ix v0)).2.2.2.2.2.2.2.1, (gs (ix v0)).2.2.2.2.2.2.2.2))) nt ts lim rf sp rr) (fun f' => CW Γ f' x0 mf E cn us so sh sm np mon ng gs nt ts lim rf sp rr) v f1) (h2 : mP (if inB v0 (nI ng) then (if inB v1 4 then (if (!(gs (ix v0)).2.2.2.2.2.2.2.2 && goN (gs (ix v0)).2.1 (ix v1)) then 0 else 3) else 2) else 1) (nI (gainT (gs (ix v0)).2.1 (ix v1))) (mS m0 r) f1 (fun f' => MW Γ f' m0 r 0 K kp ck msh msm mso np mon ng ((setG gs (ix v0) ((gs (ix v0)).1, drawT (pushT (gs (ix v0)).2.1 (ix v1)) (gs (ix v0)).2.2.1, nxt (nxt (gs (ix v0)).2.2.1), (gs (ix v0)).2.2.2.1 + nI (gainT (gs (ix v0)).2.1 (ix v1)), (gs (ix v0)).2.2.2.2.1 + 1, (if (folB (fun i => tx4 (ts i)) (b4 (gs (ix v0)).2.1) (nI (gs (ix v0)).2.2.1) (nI (gs (ix v0)).1) v1 nt) then (gs (ix v0)).2.2.2.2.2.1 + 1 else 0), mxI (gs (ix v0)).2.2.2.2.2.2.1 (if (folB (fun i => tx4 (ts i)) (b4 (gs (ix v0)).2.1) (nI (gs (ix v0)).2.2.1) (nI (gs (ix v0)).1) v1 nt) then (gs (ix v0)).2.2.2.2.2.1 + 1 else 0), (gs (ix v0)).2.2.2.2.2.2.2.1, (gs (ix v0)).2.2.2.2.2.2.2.2))) nt ts lim rf sp rr) (fun f' => MW Γ f' m0 r ((if inB v0 (nI ng) then (if inB v1 4 then (if (!(gs (ix v0)).2.2.2.2.2.2.2.2 && goN (gs (ix v0)).2.1 (ix v1)) then 0 else 3) else 2) else 1)) K kp ck msh msm mso np mon ng gs nt ts lim rf sp rr) w f2) : ∃ k b : Int32, v = some (.int k) ∧ w = some (.int b) ∧ RS Γ f2 x0 m0 o oD r (n + 1) k b := by
  obtain ⟨h1a, hO⟩ := h1
  obtain ⟨h2a, hS⟩ := h2
  have hgs := hI.gok (by omega)
  have hin : ∀ {v : Int32}, inB v (nI ng) = true → ∃ i, i < ng ∧ v = nI i ∧ ix v = i := fun h => by
    obtain ⟨hb, -⟩ := hI
    obtain ⟨i, hi, rfl⟩ := (inB_iff (by omega)).mp h
    exact ⟨i, hi, rfl, ix_nI (by omega)⟩
  have hdn : ∀ {v : Int32}, inR v 1 4 = true → ∃ d, (1 ≤ d ∧ d ≤ 4) ∧ v = nI d ∧ ix v = d := fun h => by
    obtain ⟨d, hd, rfl⟩ := dep_inR h
    exact ⟨d, hd, rfl, ix_nI (by omega)⟩
  rcases h1a with ⟨k0, rfl, ⟨g, go, gA⟩, hN⟩ | ⟨k0, rfl, ⟨g, go⟩, hN⟩
  · have hKK : _ = (0 : Int32) := k0
    rcases h2a with ⟨k1, rfl, hN2⟩ | ⟨k1, -, -⟩
    · obtain ⟨q1, q2, q3⟩ := joinC hM ho hoD hO go hS
      obtain ⟨a1, a2, a3⟩ := kh0 k0
      obtain ⟨i, hi, e0, ex⟩ := hin a1
      obtain ⟨to, hto, e1⟩ := (inB_iff (n := 4) (by decide)).mp a2
      have hto4 : ix v1 < 4 := by rw [e1, ix_nI (by omega)]; exact hto
      have hi2 : ix v0 < ng := by rw [ex]; exact hi
      have hT : TOK nt ts := hI.2.2.2.1
      have hff : (folB (fun i => tx4 (ts i)) (b4 (gs (ix v0)).2.1) (nI (gs (ix v0)).2.2.1) (nI (gs (ix v0)).1) v1 nt) = (folB (fun i => tx5 (ts i)) (b5 (gs (ix v0)).2.1) (nI (gs (ix v0)).2.2.1) (nI (gs (ix v0)).1) v1 nt) := fol_45 (by have := (hgs _ hi2).2.1; omega) hT
      have hN2 : MW Γ f2 m0 r 0 K kp ck msh msm mso np mon ng ((setG gs (ix v0) ((gs (ix v0)).1, drawT (pushT (gs (ix v0)).2.1 (ix v1)) (gs (ix v0)).2.2.1, nxt (nxt (gs (ix v0)).2.2.1), (gs (ix v0)).2.2.2.1 + nI (gainT (gs (ix v0)).2.1 (ix v1)), (gs (ix v0)).2.2.2.2.1 + 1, (if (folB (fun i => tx5 (ts i)) (b5 (gs (ix v0)).2.1) (nI (gs (ix v0)).2.2.1) (nI (gs (ix v0)).1) v1 nt) then (gs (ix v0)).2.2.2.2.2.1 + 1 else 0), mxI (gs (ix v0)).2.2.2.2.2.2.1 (if (folB (fun i => tx5 (ts i)) (b5 (gs (ix v0)).2.1) (nI (gs (ix v0)).2.2.1) (nI (gs (ix v0)).1) v1 nt) then (gs (ix v0)).2.2.2.2.2.1 + 1 else 0), (gs (ix v0)).2.2.2.2.2.2.2.1, (gs (ix v0)).2.2.2.2.2.2.2.2))) nt ts lim rf sp rr := by rw [← hff]; exact hN2
      have hN3 := hN2
      obtain ⟨⟨dz, gd, hi_, mi, fh, hm⟩, -⟩ := hN3
      exact ⟨0, _, rfl, rfl, ⟨_, _, _, _, _, _, _, _, _, _, _, _, _, _, _, _, _, hm⟩, ⟨g, q2, fun _ => gA.trans (congrArg Int32.toInt64 (Eq.symm (rfl)))⟩, ⟨_, _, _, _, _, _, _, _, _, _, _, _, _, _, _, _, _, _, _, _, _, _, _, _, CW.kpt hN h34 q1, hN2, (hI.setY hi2 (gsp1 _ _ _ _ _ _ _ _ _) (Nat.le_trans (Nat.le_of_eq (congrArg wt (gsp2 _ _ _ _ _ _ _ _ _))) (wt_next hto4)) (Nat.lt_of_le_of_lt (Nat.le_of_eq (gsp3 _ _ _ _ _ _ _ _ _)) (nxt_lt _)) (gsp8 _ _ _ _ _ _ _ _ _) (gsp9 _ _ _ _ _ _ _ _ _)), hrI, ⟨g, q2⟩, ⟨gD, q3⟩⟩⟩
    · exact absurd ((rfl).trans k0) k1
  · rcases h2a with ⟨k1, -, -⟩ | ⟨k1, ⟨x, rfl⟩, hN2⟩
    · exact absurd ((Eq.symm (rfl)).trans k1) k0
    · obtain ⟨q1, q2, q3⟩ := joinC hM ho hoD hO go hS
      have hN3 := hN2
      obtain ⟨⟨dz, gd, hi_, mi, fh, hm⟩, -⟩ := hN3
      skip
      exact ⟨_, _, rfl, rfl, ⟨_, _, _, _, _, _, _, _, _, _, _, _, _, _, _, _, _, hm⟩, ⟨g, q2, fun z => absurd z k0⟩, ⟨_, _, _, _, _, _, _, _, _, _, _, _, _, _, _, _, _, _, _, _, _, _, _, _, CW.kpt hN h34 q1, hN2, hI.mono, hrI, ⟨g, q2⟩, ⟨gD, q3⟩⟩⟩
set_option maxHeartbeats 2000000 in
theorem j_isCached {Γ : Gm} {f f1 f2 : Hm} {x0 m0 o oD n : Nat} {r : Nat → Nat} {th : Int32} {K : Nat → EV} {kp : Nat} {ck msh msm mso : Int32} {mf : Nat → Int32} {E : Nat → EV} {cn us : Int32} {so sh sm : Int64} {np : Nat} {mon : Nat → Int32} {ng : Nat} {gs : Nat → GS} {nt : Nat} {ts : Nat → TR} {lim : Int32} {rf sp : Int64} {rr : Nat} {v0 v1 : Int32} {g0 : Nat → Int64} {gD : Nat → UInt64} {v w : Option Value} (h34 : gC Γ 3 ≠ gC Γ 4) (hn : n ≤ 511) (hI : INV n K kp ck msh msm mso mf E cn us so sh sm np mon ng gs nt ts lim rf sp rr) (hM : MW Γ f m0 r th K kp ck msh msm mso np mon ng gs nt ts lim rf sp rr) (hrI : rI r) (ho : f o = some (eJ Γ 1 g0)) (hoD : f oD = some (eF Γ 1 gD)) (h1 : wP (if inB v0 (nI ng) then (if inR v1 1 4 then 0 else 2) else 1) (bI ((fstP (fun j => isFor (E j) (b5 (gs (ix v0)).2.1) (nI (gs (ix v0)).2.2.1) v1) 64).isSome)) Γ o f (fun f' => CW Γ f' x0 mf E cn us so sh sm np mon ng gs nt ts lim rf sp rr) (fun f' => CW Γ f' x0 mf E cn us so sh sm np mon ng gs nt ts lim rf sp rr) v f1) (h2 : mP (if inB v0 (nI ng) then (if inR v1 1 4 then 0 else 2) else 1) (bI ((fstP (fun j => isFor (K j) (b4 (gs (ix v0)).2.1) (nI (gs (ix v0)).2.2.1) v1) kp).isSome)) (mS m0 r) f1 (fun f' => MW Γ f' m0 r 0 K kp ck msh msm mso np mon ng gs nt ts lim rf sp rr) (fun f' => MW Γ f' m0 r ((if inB v0 (nI ng) then (if inR v1 1 4 then 0 else 2) else 1)) K kp ck msh msm mso np mon ng gs nt ts lim rf sp rr) w f2) : ∃ k b : Int32, v = some (.int k) ∧ w = some (.int b) ∧ RS Γ f2 x0 m0 o oD r (n + 1) k b := by
  obtain ⟨h1a, hO⟩ := h1
  obtain ⟨h2a, hS⟩ := h2
  have hgs := hI.gok (by omega)
  have hin : ∀ {v : Int32}, inB v (nI ng) = true → ∃ i, i < ng ∧ v = nI i ∧ ix v = i := fun h => by
    obtain ⟨hb, -⟩ := hI
    obtain ⟨i, hi, rfl⟩ := (inB_iff (by omega)).mp h
    exact ⟨i, hi, rfl, ix_nI (by omega)⟩
  have hdn : ∀ {v : Int32}, inR v 1 4 = true → ∃ d, (1 ≤ d ∧ d ≤ 4) ∧ v = nI d ∧ ix v = d := fun h => by
    obtain ⟨d, hd, rfl⟩ := dep_inR h
    exact ⟨d, hd, rfl, ix_nI (by omega)⟩
  have hfs : inB v0 (nI ng) = true → inR v1 1 4 = true → (fstP (fun j => isFor (K j) (b4 (gs (ix v0)).2.1) (nI (gs (ix v0)).2.2.1) v1) kp).isSome = (fstP (fun j => isFor (E j) (b5 (gs (ix v0)).2.1) (nI (gs (ix v0)).2.2.1) v1) 64).isSome := fun a1 a2 => by
    obtain ⟨i, hi, e0, ex⟩ := hin a1
    obtain ⟨d, hd, e1, ed⟩ := hdn a2
    rw [ex, e1]
    rcases hI.find (t := (gs i).2.1) (z := (gs i).2.2.1) (d := d) (by have := (hgs i hi).2.1; omega) hd.1 hd.2 with ⟨q1, q2⟩ | ⟨a, b, -, -, q1, q2, -⟩
    · (rw [q1, q2])
    · (rw [q1, q2]; try rfl)
  rcases h1a with ⟨k0, rfl, ⟨g, go, gA⟩, hN⟩ | ⟨k0, rfl, ⟨g, go⟩, hN⟩
  · have hKK : _ = (0 : Int32) := k0
    rcases h2a with ⟨k1, rfl, hN2⟩ | ⟨k1, -, -⟩
    · obtain ⟨q1, q2, q3⟩ := joinC hM ho hoD hO go hS
      have hN3 := hN2
      obtain ⟨⟨dz, gd, hi_, mi, fh, hm⟩, -⟩ := hN3
      exact ⟨0, _, rfl, rfl, ⟨_, _, _, _, _, _, _, _, _, _, _, _, _, _, _, _, _, hm⟩, ⟨g, q2, fun _ => gA.trans (congrArg Int32.toInt64 (Eq.symm (by rw [hfs (kz2 k0).1 (kz2 k0).2])))⟩, ⟨_, _, _, _, _, _, _, _, _, _, _, _, _, _, _, _, _, _, _, _, _, _, _, _, CW.kpt hN h34 q1, hN2, hI.mono, hrI, ⟨g, q2⟩, ⟨gD, q3⟩⟩⟩
    · exact absurd ((rfl).trans k0) k1
  · rcases h2a with ⟨k1, -, -⟩ | ⟨k1, ⟨x, rfl⟩, hN2⟩
    · exact absurd ((Eq.symm (rfl)).trans k1) k0
    · obtain ⟨q1, q2, q3⟩ := joinC hM ho hoD hO go hS
      have hN3 := hN2
      obtain ⟨⟨dz, gd, hi_, mi, fh, hm⟩, -⟩ := hN3
      skip
      exact ⟨_, _, rfl, rfl, ⟨_, _, _, _, _, _, _, _, _, _, _, _, _, _, _, _, _, hm⟩, ⟨g, q2, fun z => absurd z k0⟩, ⟨_, _, _, _, _, _, _, _, _, _, _, _, _, _, _, _, _, _, _, _, _, _, _, _, CW.kpt hN h34 q1, hN2, hI.mono, hrI, ⟨g, q2⟩, ⟨gD, q3⟩⟩⟩
set_option maxHeartbeats 2000000 in
theorem j_pin {Γ : Gm} {f f1 f2 : Hm} {x0 m0 o oD n : Nat} {r : Nat → Nat} {th : Int32} {K : Nat → EV} {kp : Nat} {ck msh msm mso : Int32} {mf : Nat → Int32} {E : Nat → EV} {cn us : Int32} {so sh sm : Int64} {np : Nat} {mon : Nat → Int32} {ng : Nat} {gs : Nat → GS} {nt : Nat} {ts : Nat → TR} {lim : Int32} {rf sp : Int64} {rr : Nat} {v0 v1 : Int32} {g0 : Nat → Int64} {gD : Nat → UInt64} {v w : Option Value} (h34 : gC Γ 3 ≠ gC Γ 4) (hn : n ≤ 511) (hI : INV n K kp ck msh msm mso mf E cn us so sh sm np mon ng gs nt ts lim rf sp rr) (hM : MW Γ f m0 r th K kp ck msh msm mso np mon ng gs nt ts lim rf sp rr) (hrI : rI r) (ho : f o = some (eJ Γ 1 g0)) (hoD : f oD = some (eF Γ 1 gD)) (h1 : wP (if inB v0 (nI ng) then (if inR v1 1 4 then (if (!(gs (ix v0)).2.2.2.2.2.2.2.2) then (if (fstP (fun j => isFor (E j) (b5 (gs (ix v0)).2.1) (nI (gs (ix v0)).2.2.1) v1) 64).isSome then 0 else 4) else 3) else 2) else 1) (nI (cntP (fun j => bt (pinE E (fstP (fun j => isFor (E j) (b5 (gs (ix v0)).2.1) (nI (gs (ix v0)).2.2.1) v1) 64) (ix v0) j).2.2.2.2.2.2 (ix v0)) 64)) Γ o f (fun f' => CW Γ f' x0 mf ((pinE E (fstP (fun j => isFor (E j) (b5 (gs (ix v0)).2.1) (nI (gs (ix v0)).2.2.1) v1) 64) (ix v0))) cn us so sh sm np mon ng gs nt ts lim rf sp rr) (fun f' => CW Γ f' x0 mf E cn us so sh sm np mon ng gs nt ts lim rf sp rr) v f1) (h2 : mP (if inB v0 (nI ng) then (if inR v1 1 4 then (if (!(gs (ix v0)).2.2.2.2.2.2.2.2) then (if (fstP (fun j => isFor (K j) (b4 (gs (ix v0)).2.1) (nI (gs (ix v0)).2.2.1) v1) kp).isSome then 0 else 4) else 3) else 2) else 1) (nI (cntP (fun j => bt ((pinK K (fstP (fun j => isFor (K j) (b4 (gs (ix v0)).2.1) (nI (gs (ix v0)).2.2.1) v1) kp) (ix v0)) j).2.2.2.2.2.2 (ix v0)) kp)) (mS m0 r) f1 (fun f' => MW Γ f' m0 r 0 ((pinK K (fstP (fun j => isFor (K j) (b4 (gs (ix v0)).2.1) (nI (gs (ix v0)).2.2.1) v1) kp) (ix v0))) kp ck msh msm mso np mon ng gs nt ts lim rf sp rr) (fun f' => MW Γ f' m0 r ((if inB v0 (nI ng) then (if inR v1 1 4 then (if (!(gs (ix v0)).2.2.2.2.2.2.2.2) then (if (fstP (fun j => isFor (K j) (b4 (gs (ix v0)).2.1) (nI (gs (ix v0)).2.2.1) v1) kp).isSome then 0 else 4) else 3) else 2) else 1)) K kp ck msh msm mso np mon ng gs nt ts lim rf sp rr) w f2) : ∃ k b : Int32, v = some (.int k) ∧ w = some (.int b) ∧ RS Γ f2 x0 m0 o oD r (n + 1) k b := by
  obtain ⟨h1a, hO⟩ := h1
  obtain ⟨h2a, hS⟩ := h2
  have hgs := hI.gok (by omega)
  have hin : ∀ {v : Int32}, inB v (nI ng) = true → ∃ i, i < ng ∧ v = nI i ∧ ix v = i := fun h => by
    obtain ⟨hb, -⟩ := hI
    obtain ⟨i, hi, rfl⟩ := (inB_iff (by omega)).mp h
    exact ⟨i, hi, rfl, ix_nI (by omega)⟩
  have hdn : ∀ {v : Int32}, inR v 1 4 = true → ∃ d, (1 ≤ d ∧ d ≤ 4) ∧ v = nI d ∧ ix v = d := fun h => by
    obtain ⟨d, hd, rfl⟩ := dep_inR h
    exact ⟨d, hd, rfl, ix_nI (by omega)⟩
  have hfs : inB v0 (nI ng) = true → inR v1 1 4 = true → (fstP (fun j => isFor (K j) (b4 (gs (ix v0)).2.1) (nI (gs (ix v0)).2.2.1) v1) kp).isSome = (fstP (fun j => isFor (E j) (b5 (gs (ix v0)).2.1) (nI (gs (ix v0)).2.2.1) v1) 64).isSome := fun a1 a2 => by
    obtain ⟨i, hi, e0, ex⟩ := hin a1
    obtain ⟨d, hd, e1, ed⟩ := hdn a2
    rw [ex, e1]
    rcases hI.find (t := (gs i).2.1) (z := (gs i).2.2.1) (d := d) (by have := (hgs i hi).2.1; omega) hd.1 hd.2 with ⟨q1, q2⟩ | ⟨a, b, -, -, q1, q2, -⟩
    · (rw [q1, q2])
    · (rw [q1, q2]; try rfl)
  have hKQ := kq4 (c := !(gs (ix v0)).2.2.2.2.2.2.2.2) hfs
  rcases h1a with ⟨k0, rfl, ⟨g, go, gA⟩, hN⟩ | ⟨k0, rfl, ⟨g, go⟩, hN⟩
  · have hKK : _ = (0 : Int32) := k0
    rcases h2a with ⟨k1, rfl, hN2⟩ | ⟨k1, -, -⟩
    · obtain ⟨q1, q2, q3⟩ := joinC hM ho hoD hO go hS
      obtain ⟨a1, a2, a3, a4⟩ := kz4 k0
      obtain ⟨i, hi, e0, ex⟩ := hin a1
      obtain ⟨d, hd, e1, ed⟩ := hdn a2
      have hnew : INV (n + 1) (pinK K (fstP (fun j => isFor (K j) (b4 (gs (ix v0)).2.1) (nI (gs (ix v0)).2.2.1) v1) kp) (ix v0)) kp ck msh msm mso mf (pinE E (fstP (fun j => isFor (E j) (b5 (gs (ix v0)).2.1) (nI (gs (ix v0)).2.2.1) v1) 64) (ix v0)) cn us so sh sm np mon ng gs nt ts lim rf sp rr := by
        rw [ex, e1] at a4 ⊢
        rcases hI.find (t := (gs i).2.1) (z := (gs i).2.2.1) (d := d) (by have := (hgs i hi).2.1; omega) hd.1 hd.2 with ⟨q1, q2⟩ | ⟨a, b, -, -, q1, q2, hg⟩
        · rw [q2] at a4; cases a4
        · rw [q1, q2]; exact hg i
      have hN3 := hN2
      obtain ⟨⟨dz, gd, hi_, mi, fh, hm⟩, -⟩ := hN3
      exact ⟨0, _, rfl, rfl, ⟨_, _, _, _, _, _, _, _, _, _, _, _, _, _, _, _, _, hm⟩, ⟨g, q2, fun _ => gA.trans (congrArg Int32.toInt64 (Eq.symm (by obtain ⟨-, -, -, -, -, ⟨⟨σ, hσ⟩, -⟩, -⟩ := hnew; rw [cnt_bt hσ])))⟩, ⟨_, _, _, _, _, _, _, _, _, _, _, _, _, _, _, _, _, _, _, _, _, _, _, _, CW.kpt hN h34 q1, hN2, hnew, hrI, ⟨g, q2⟩, ⟨gD, q3⟩⟩⟩
    · exact absurd ((hKQ).trans k0) k1
  · rcases h2a with ⟨k1, -, -⟩ | ⟨k1, ⟨x, rfl⟩, hN2⟩
    · exact absurd ((Eq.symm (hKQ)).trans k1) k0
    · obtain ⟨q1, q2, q3⟩ := joinC hM ho hoD hO go hS
      have hN3 := hN2
      obtain ⟨⟨dz, gd, hi_, mi, fh, hm⟩, -⟩ := hN3
      rw [show ((if inB v0 (nI ng) then (if inR v1 1 4 then (if (!(gs (ix v0)).2.2.2.2.2.2.2.2) then (if (fstP (fun j => isFor (K j) (b4 (gs (ix v0)).2.1) (nI (gs (ix v0)).2.2.1) v1) kp).isSome then 0 else 4) else 3) else 2) else 1) : Int32) = (if inB v0 (nI ng) then (if inR v1 1 4 then (if (!(gs (ix v0)).2.2.2.2.2.2.2.2) then (if (fstP (fun j => isFor (E j) (b5 (gs (ix v0)).2.1) (nI (gs (ix v0)).2.2.1) v1) 64).isSome then 0 else 4) else 3) else 2) else 1) from hKQ] at hm
      exact ⟨_, _, rfl, rfl, ⟨_, _, _, _, _, _, _, _, _, _, _, _, _, _, _, _, _, hm⟩, ⟨g, q2, fun z => absurd z k0⟩, ⟨_, _, _, _, _, _, _, _, _, _, _, _, _, _, _, _, _, _, _, _, _, _, _, _, CW.kpt hN h34 q1, hN2, hI.mono, hrI, ⟨g, q2⟩, ⟨gD, q3⟩⟩⟩
set_option maxHeartbeats 2000000 in
theorem j_setRoom {Γ : Gm} {f f1 f2 : Hm} {x0 m0 o oD n : Nat} {r : Nat → Nat} {th : Int32} {K : Nat → EV} {kp : Nat} {ck msh msm mso : Int32} {mf : Nat → Int32} {E : Nat → EV} {cn us : Int32} {so sh sm : Int64} {np : Nat} {mon : Nat → Int32} {ng : Nat} {gs : Nat → GS} {nt : Nat} {ts : Nat → TR} {lim : Int32} {rf sp : Int64} {rr : Nat} {v0 : Int32} {g0 : Nat → Int64} {gD : Nat → UInt64} {v w : Option Value} (h34 : gC Γ 3 ≠ gC Γ 4) (hn : n ≤ 511) (hI : INV n K kp ck msh msm mso mf E cn us so sh sm np mon ng gs nt ts lim rf sp rr) (hM : MW Γ f m0 r th K kp ck msh msm mso np mon ng gs nt ts lim rf sp rr) (hrI : rI r) (ho : f o = some (eJ Γ 1 g0)) (hoD : f oD = some (eF Γ 1 gD)) (h1 : wP (if inR v0 1 64 then (if decide (cntP (pnB E) 64 ≤ ix v0) then 0 else 2) else 1) ((dropK 64 (kp - ix v0) (E, nI kp)).2) Γ o f (fun f' => CW Γ f' x0 mf ((dropK 64 (kp - ix v0) (E, nI kp)).1) ((dropK 64 (kp - ix v0) (E, nI kp)).2) us so sh sm np mon ng gs nt ts lim rf sp ((ix v0))) (fun f' => CW Γ f' x0 mf E cn us so sh sm np mon ng gs nt ts lim rf sp rr) v f1) (h2 : mP (if inR v0 1 64 then (if decide (cntP (pnB K) kp ≤ ix v0) then 0 else 2) else 1) (nI (dropMK (kp - ix v0) (K, kp)).2) (mS m0 r) f1 (fun f' => MW Γ f' m0 r 0 ((dropMK (kp - ix v0) (K, kp)).1) ((dropMK (kp - ix v0) (K, kp)).2) ck msh msm mso np mon ng gs nt ts lim rf sp ((ix v0))) (fun f' => MW Γ f' m0 r ((if inR v0 1 64 then (if decide (cntP (pnB K) kp ≤ ix v0) then 0 else 2) else 1)) K kp ck msh msm mso np mon ng gs nt ts lim rf sp rr) w f2) : ∃ k b : Int32, v = some (.int k) ∧ w = some (.int b) ∧ RS Γ f2 x0 m0 o oD r (n + 1) k b := by
  obtain ⟨h1a, hO⟩ := h1
  obtain ⟨h2a, hS⟩ := h2
  have hgs := hI.gok (by omega)
  have hcp : cntP (pnB E) 64 = cntP (pnB K) kp := by obtain ⟨-, -, -, -, -, ⟨⟨σ, hσ⟩, -⟩, -⟩ := id hI; exact cnt_pins hσ
  have hKQ : ((if inR v0 1 64 then (if decide (cntP (pnB K) kp ≤ ix v0) then 0 else 2) else 1) : Int32) = (if inR v0 1 64 then (if decide (cntP (pnB E) 64 ≤ ix v0) then 0 else 2) else 1 : Int32) := by rw [hcp]
  rcases h1a with ⟨k0, rfl, ⟨g, go, gA⟩, hN⟩ | ⟨k0, rfl, ⟨g, go⟩, hN⟩
  · have hKK : _ = (0 : Int32) := k0
    rcases h2a with ⟨k1, rfl, hN2⟩ | ⟨k1, -, -⟩
    · obtain ⟨q1, q2, q3⟩ := joinC hM ho hoD hO go hS
      obtain ⟨a1, a2⟩ := kz2 k0
      have hq : 1 ≤ ix v0 ∧ ix v0 ≤ 64 := by
        unfold inR at a1
        obtain ⟨b1, b2⟩ := (Bool.and_eq_true _ _).mp a1
        obtain ⟨j, hj, e⟩ := nI_of (fun z => absurd (Int32.lt_of_lt_of_le z (by decide : (0 : Int32) ≤ 1)) (Int32.not_lt.mpr (of_decide_eq_true b1)) : ¬ v0 < 0)
        rw [e, ix_nI hj]
        exact ⟨(nI_leI (a := 1) (by decide) hj).mp (by rw [← e]; exact of_decide_eq_true b1), (nI_leI (b := 64) hj (by decide)).mp (by rw [← e]; exact of_decide_eq_true b2)⟩
      obtain ⟨r1, r2, r3⟩ := hI.room hq.1 hq.2 (by rw [← hcp]; exact of_decide_eq_true a2)
      have hN3 := hN2
      obtain ⟨⟨dz, gd, hi_, mi, fh, hm⟩, -⟩ := hN3
      exact ⟨0, _, rfl, rfl, ⟨_, _, _, _, _, _, _, _, _, _, _, _, _, _, _, _, _, hm⟩, ⟨g, q2, fun _ => gA.trans (congrArg Int32.toInt64 (Eq.symm (by rw [r1, r2])))⟩, ⟨_, _, _, _, _, _, _, _, _, _, _, _, _, _, _, _, _, _, _, _, _, _, _, _, CW.kpt hN h34 q1, hN2, r3, hrI, ⟨g, q2⟩, ⟨gD, q3⟩⟩⟩
    · exact absurd ((hKQ).trans k0) k1
  · rcases h2a with ⟨k1, -, -⟩ | ⟨k1, ⟨x, rfl⟩, hN2⟩
    · exact absurd ((Eq.symm (hKQ)).trans k1) k0
    · obtain ⟨q1, q2, q3⟩ := joinC hM ho hoD hO go hS
      have hN3 := hN2
      obtain ⟨⟨dz, gd, hi_, mi, fh, hm⟩, -⟩ := hN3
      rw [show ((if inR v0 1 64 then (if decide (cntP (pnB K) kp ≤ ix v0) then 0 else 2) else 1) : Int32) = (if inR v0 1 64 then (if decide (cntP (pnB E) 64 ≤ ix v0) then 0 else 2) else 1) from hKQ] at hm
      exact ⟨_, _, rfl, rfl, ⟨_, _, _, _, _, _, _, _, _, _, _, _, _, _, _, _, _, hm⟩, ⟨g, q2, fun z => absurd z k0⟩, ⟨_, _, _, _, _, _, _, _, _, _, _, _, _, _, _, _, _, _, _, _, _, _, _, _, CW.kpt hN h34 q1, hN2, hI.mono, hrI, ⟨g, q2⟩, ⟨gD, q3⟩⟩⟩
set_option maxHeartbeats 2000000 in
theorem j_judge {Γ : Gm} {f f1 f2 : Hm} {x0 m0 o oD n : Nat} {r : Nat → Nat} {th : Int32} {K : Nat → EV} {kp : Nat} {ck msh msm mso : Int32} {mf : Nat → Int32} {E : Nat → EV} {cn us : Int32} {so sh sm : Int64} {np : Nat} {mon : Nat → Int32} {ng : Nat} {gs : Nat → GS} {nt : Nat} {ts : Nat → TR} {lim : Int32} {rf sp : Int64} {rr : Nat} {v0 : Int32} {g0 : Nat → Int64} {gD : Nat → UInt64} {v w : Option Value} (h34 : gC Γ 3 ≠ gC Γ 4) (hn : n ≤ 511) (hI : INV n K kp ck msh msm mso mf E cn us so sh sm np mon ng gs nt ts lim rf sp rr) (hM : MW Γ f m0 r th K kp ck msh msm mso np mon ng gs nt ts lim rf sp rr) (hrI : rI r) (ho : f o = some (eJ Γ 1 g0)) (hoD : f oD = some (eF Γ 1 gD)) (h1 : wP (if inB v0 (nI ng) then (if (!(gs (ix v0)).2.2.2.2.2.2.2.2) then 0 else 2) else 1) ((if (gs (ix v0)).2.2.2.2.2.2.1 < lim then (-1) else (gs (ix v0)).2.2.2.2.2.2.2.1)) Γ o f (fun f' => CW Γ f' x0 mf ((if (gs (ix v0)).2.2.2.2.2.2.1 < lim then E else (unpK E (ix v0)))) cn us so sh sm np ((if (gs (ix v0)).2.2.2.2.2.2.1 < lim then mon else (upd mon (gs (ix v0)).1 (mon (gs (ix v0)).1 + (gs (ix v0)).2.2.2.2.2.2.2.1)))) ng ((if (gs (ix v0)).2.2.2.2.2.2.1 < lim then gs else (setG gs (ix v0) ((gs (ix v0)).1, (gs (ix v0)).2.1, (gs (ix v0)).2.2.1, (gs (ix v0)).2.2.2.1, (gs (ix v0)).2.2.2.2.1, (gs (ix v0)).2.2.2.2.2.1, (gs (ix v0)).2.2.2.2.2.2.1, (gs (ix v0)).2.2.2.2.2.2.2.1, true)))) nt ts lim ((if (gs (ix v0)).2.2.2.2.2.2.1 < lim then rf else (rf + (gs (ix v0)).2.2.2.2.2.2.2.1.toInt64))) sp rr) (fun f' => CW Γ f' x0 mf E cn us so sh sm np mon ng gs nt ts lim rf sp rr) v f1) (h2 : mP (if inB v0 (nI ng) then (if (!(gs (ix v0)).2.2.2.2.2.2.2.2) then 0 else 2) else 1) ((if (gs (ix v0)).2.2.2.2.2.2.1 < lim then (-1) else (gs (ix v0)).2.2.2.2.2.2.2.1)) (mS m0 r) f1 (fun f' => MW Γ f' m0 r 0 ((if (gs (ix v0)).2.2.2.2.2.2.1 < lim then K else (mixE (unpK K (ix v0)) K kp))) kp ck msh msm mso np ((if (gs (ix v0)).2.2.2.2.2.2.1 < lim then mon else (upd mon (gs (ix v0)).1 (mon (gs (ix v0)).1 + (gs (ix v0)).2.2.2.2.2.2.2.1)))) ng ((if (gs (ix v0)).2.2.2.2.2.2.1 < lim then gs else (setG gs (ix v0) ((gs (ix v0)).1, (gs (ix v0)).2.1, (gs (ix v0)).2.2.1, (gs (ix v0)).2.2.2.1, (gs (ix v0)).2.2.2.2.1, (gs (ix v0)).2.2.2.2.2.1, (gs (ix v0)).2.2.2.2.2.2.1, (gs (ix v0)).2.2.2.2.2.2.2.1, true)))) nt ts lim ((if (gs (ix v0)).2.2.2.2.2.2.1 < lim then rf else (rf + (gs (ix v0)).2.2.2.2.2.2.2.1.toInt64))) sp rr) (fun f' => MW Γ f' m0 r ((if inB v0 (nI ng) then (if (!(gs (ix v0)).2.2.2.2.2.2.2.2) then 0 else 2) else 1)) K kp ck msh msm mso np mon ng gs nt ts lim rf sp rr) w f2) : ∃ k b : Int32, v = some (.int k) ∧ w = some (.int b) ∧ RS Γ f2 x0 m0 o oD r (n + 1) k b := by
  obtain ⟨h1a, hO⟩ := h1
  obtain ⟨h2a, hS⟩ := h2
  have hgs := hI.gok (by omega)
  have hin : ∀ {v : Int32}, inB v (nI ng) = true → ∃ i, i < ng ∧ v = nI i ∧ ix v = i := fun h => by
    obtain ⟨hb, -⟩ := hI
    obtain ⟨i, hi, rfl⟩ := (inB_iff (by omega)).mp h
    exact ⟨i, hi, rfl, ix_nI (by omega)⟩
  have hdn : ∀ {v : Int32}, inR v 1 4 = true → ∃ d, (1 ≤ d ∧ d ≤ 4) ∧ v = nI d ∧ ix v = d := fun h => by
    obtain ⟨d, hd, rfl⟩ := dep_inR h
    exact ⟨d, hd, rfl, ix_nI (by omega)⟩
  rcases h1a with ⟨k0, rfl, ⟨g, go, gA⟩, hN⟩ | ⟨k0, rfl, ⟨g, go⟩, hN⟩
  · have hKK : _ = (0 : Int32) := k0
    rcases h2a with ⟨k1, rfl, hN2⟩ | ⟨k1, -, -⟩
    · obtain ⟨q1, q2, q3⟩ := joinC hM ho hoD hO go hS
      obtain ⟨a1, a2⟩ := kz2 k0
      obtain ⟨i, hi, e0, ex⟩ := hin a1
      have hi2 : ix v0 < ng := by rw [ex]; exact hi
      have hv := sx_of a2
      have hN3 := hN2
      obtain ⟨⟨dz, gd, hi_, mi, fh, hm⟩, -⟩ := hN3
      exact ⟨0, _, rfl, rfl, ⟨_, _, _, _, _, _, _, _, _, _, _, _, _, _, _, _, _, hm⟩, ⟨g, q2, fun _ => gA.trans (congrArg Int32.toInt64 (Eq.symm (rfl)))⟩, ⟨_, _, _, _, _, _, _, _, _, _, _, _, _, _, _, _, _, _, _, _, _, _, _, _, CW.kpt hN h34 q1, hN2, (by by_cases hlt : (gs (ix v0)).2.2.2.2.2.2.1 < lim; (simp only [if_pos hlt]; exact hI.mono); (simp only [if_neg hlt]; exact hI.judge hi2 hv)), hrI, ⟨g, q2⟩, ⟨gD, q3⟩⟩⟩
    · exact absurd ((rfl).trans k0) k1
  · rcases h2a with ⟨k1, -, -⟩ | ⟨k1, ⟨x, rfl⟩, hN2⟩
    · exact absurd ((Eq.symm (rfl)).trans k1) k0
    · obtain ⟨q1, q2, q3⟩ := joinC hM ho hoD hO go hS
      have hN3 := hN2
      obtain ⟨⟨dz, gd, hi_, mi, fh, hm⟩, -⟩ := hN3
      skip
      exact ⟨_, _, rfl, rfl, ⟨_, _, _, _, _, _, _, _, _, _, _, _, _, _, _, _, _, hm⟩, ⟨g, q2, fun z => absurd z k0⟩, ⟨_, _, _, _, _, _, _, _, _, _, _, _, _, _, _, _, _, _, _, _, _, _, _, _, CW.kpt hN h34 q1, hN2, hI.mono, hrI, ⟨g, q2⟩, ⟨gD, q3⟩⟩⟩
set_option maxHeartbeats 2000000 in
theorem j_hint {Γ : Gm} {f f1 f2 : Hm} {x0 m0 o oD n : Nat} {r : Nat → Nat} {th : Int32} {K : Nat → EV} {kp : Nat} {ck msh msm mso : Int32} {mf : Nat → Int32} {E : Nat → EV} {cn us : Int32} {so sh sm : Int64} {np : Nat} {mon : Nat → Int32} {ng : Nat} {gs : Nat → GS} {nt : Nat} {ts : Nat → TR} {lim : Int32} {rf sp : Int64} {rr : Nat} {v0 v1 : Int32} {g0 : Nat → Int64} {gD : Nat → UInt64} {v w : Option Value} (h34 : gC Γ 3 ≠ gC Γ 4) (hn : n ≤ 511) (hI : INV n K kp ck msh msm mso mf E cn us so sh sm np mon ng gs nt ts lim rf sp rr) (hM : MW Γ f m0 r th K kp ck msh msm mso np mon ng gs nt ts lim rf sp rr) (hrI : rI r) (ho : f o = some (eJ Γ 1 g0)) (hoD : f oD = some (eF Γ 1 gD)) (h1 : wP (if inB v0 (nI ng) then (if inR v1 1 4 then (if (!(gs (ix v0)).2.2.2.2.2.2.2.2 && !ovN (gs (ix v0)).2.1) then (if decide ((mxI (trS 64 (nI rr) (ix v1) (gs (ix v0)).2.1 (gs (ix v0)).2.2.1 (E, cn, us, 0, 0)).2.2.2.2 1) ≤ mon (gs (ix v0)).1) then (if decide (nt < 60) then 0 else 5) else 4) else 3) else 2) else 1) ((wp (ix v1) (gs (ix v0)).2.1 (gs (ix v0)).2.2.1).2) Γ o f (fun f' => CW Γ f' x0 mf ((trS 64 (nI rr) (ix v1) (gs (ix v0)).2.1 (gs (ix v0)).2.2.1 (E, cn, us, 0, 0)).1) ((trS 64 (nI rr) (ix v1) (gs (ix v0)).2.1 (gs (ix v0)).2.2.1 (E, cn, us, 0, 0)).2.1) ((trS 64 (nI rr) (ix v1) (gs (ix v0)).2.1 (gs (ix v0)).2.2.1 (E, cn, us, 0, 0)).2.2.1) ((so + 1)) ((sh + (trS 64 (nI rr) (ix v1) (gs (ix v0)).2.1 (gs (ix v0)).2.2.1 (E, cn, us, 0, 0)).2.2.2.1.toInt64)) ((sm + (trS 64 (nI rr) (ix v1) (gs (ix v0)).2.1 (gs (ix v0)).2.2.1 (E, cn, us, 0, 0)).2.2.2.2.toInt64)) np ((upd mon (gs (ix v0)).1 (mon (gs (ix v0)).1 - (mxI (trS 64 (nI rr) (ix v1) (gs (ix v0)).2.1 (gs (ix v0)).2.2.1 (E, cn, us, 0, 0)).2.2.2.2 1)))) ng ((setG gs (ix v0) ((gs (ix v0)).1, (gs (ix v0)).2.1, (gs (ix v0)).2.2.1, (gs (ix v0)).2.2.2.1, (gs (ix v0)).2.2.2.2.1, (gs (ix v0)).2.2.2.2.2.1, (gs (ix v0)).2.2.2.2.2.2.1, (gs (ix v0)).2.2.2.2.2.2.2.1 + (mxI (trS 64 (nI rr) (ix v1) (gs (ix v0)).2.1 (gs (ix v0)).2.2.1 (E, cn, us, 0, 0)).2.2.2.2 1), (gs (ix v0)).2.2.2.2.2.2.2.2))) ((nt + 1)) ((setT ts nt ((gs (ix v0)).1, (gs (ix v0)).2.1, (gs (ix v0)).2.2.1, (wp (ix v1) (gs (ix v0)).2.1 (gs (ix v0)).2.2.1).2))) lim rf ((sp + (mxI (trS 64 (nI rr) (ix v1) (gs (ix v0)).2.1 (gs (ix v0)).2.2.1 (E, cn, us, 0, 0)).2.2.2.2 1).toInt64)) rr) (fun f' => CW Γ f' x0 mf E cn us so sh sm np mon ng gs nt ts lim rf sp rr) v f1) (h2 : mP (if inB v0 (nI ng) then (if inR v1 1 4 then (if (!(gs (ix v0)).2.2.2.2.2.2.2.2 && !ovN (gs (ix v0)).2.1) then (if decide ((mxI (trM true rr (ix v1) (gs (ix v0)).2.1 (gs (ix v0)).2.2.1 (K, kp, ck, 0, 0)).2.2.2.2 1) ≤ mon (gs (ix v0)).1) then (if decide (nt < 60) then 0 else 5) else 4) else 3) else 2) else 1) ((wp (ix v1) (gs (ix v0)).2.1 (gs (ix v0)).2.2.1).2) (mS m0 r) f1 (fun f' => ∃ K', (∀ j, j < 64 → K' j = K j) ∧ MW Γ f' m0 r 0 ((trM true rr (ix v1) (gs (ix v0)).2.1 (gs (ix v0)).2.2.1 (K', kp, ck, 0, 0)).1) ((trM true rr (ix v1) (gs (ix v0)).2.1 (gs (ix v0)).2.2.1 (K', kp, ck, 0, 0)).2.1) ((trM true rr (ix v1) (gs (ix v0)).2.1 (gs (ix v0)).2.2.1 (K', kp, ck, 0, 0)).2.2.1) ((msh + (trM true rr (ix v1) (gs (ix v0)).2.1 (gs (ix v0)).2.2.1 (K', kp, ck, 0, 0)).2.2.2.1)) ((msm + (trM true rr (ix v1) (gs (ix v0)).2.1 (gs (ix v0)).2.2.1 (K', kp, ck, 0, 0)).2.2.2.2)) ((mso + 1)) np ((upd mon (gs (ix v0)).1 (mon (gs (ix v0)).1 - (mxI (trM true rr (ix v1) (gs (ix v0)).2.1 (gs (ix v0)).2.2.1 (K, kp, ck, 0, 0)).2.2.2.2 1)))) ng ((setG gs (ix v0) ((gs (ix v0)).1, (gs (ix v0)).2.1, (gs (ix v0)).2.2.1, (gs (ix v0)).2.2.2.1, (gs (ix v0)).2.2.2.2.1, (gs (ix v0)).2.2.2.2.2.1, (gs (ix v0)).2.2.2.2.2.2.1, (gs (ix v0)).2.2.2.2.2.2.2.1 + (mxI (trM true rr (ix v1) (gs (ix v0)).2.1 (gs (ix v0)).2.2.1 (K, kp, ck, 0, 0)).2.2.2.2 1), (gs (ix v0)).2.2.2.2.2.2.2.2))) ((nt + 1)) ((setT ts nt ((gs (ix v0)).1, (gs (ix v0)).2.1, (gs (ix v0)).2.2.1, (wp (ix v1) (gs (ix v0)).2.1 (gs (ix v0)).2.2.1).2))) lim rf ((sp + (mxI (trM true rr (ix v1) (gs (ix v0)).2.1 (gs (ix v0)).2.2.1 (K, kp, ck, 0, 0)).2.2.2.2 1).toInt64)) rr) (fun f' => ∃ K', (∀ j, j < 64 → K' j = K j) ∧ MW Γ f' m0 r ((if inB v0 (nI ng) then (if inR v1 1 4 then (if (!(gs (ix v0)).2.2.2.2.2.2.2.2 && !ovN (gs (ix v0)).2.1) then (if decide ((mxI (trM true rr (ix v1) (gs (ix v0)).2.1 (gs (ix v0)).2.2.1 (K, kp, ck, 0, 0)).2.2.2.2 1) ≤ mon (gs (ix v0)).1) then (if decide (nt < 60) then 0 else 5) else 4) else 3) else 2) else 1)) K' kp ck msh msm mso np mon ng gs nt ts lim rf sp rr) w f2) : ∃ k b : Int32, v = some (.int k) ∧ w = some (.int b) ∧ RS Γ f2 x0 m0 o oD r (n + 1) k b := by
  obtain ⟨h1a, hO⟩ := h1
  obtain ⟨h2a, hS⟩ := h2
  have hgs := hI.gok (by omega)
  have hin : ∀ {v : Int32}, inB v (nI ng) = true → ∃ i, i < ng ∧ v = nI i ∧ ix v = i := fun h => by
    obtain ⟨hb, -⟩ := hI
    obtain ⟨i, hi, rfl⟩ := (inB_iff (by omega)).mp h
    exact ⟨i, hi, rfl, ix_nI (by omega)⟩
  have hdn : ∀ {v : Int32}, inR v 1 4 = true → ∃ d, (1 ≤ d ∧ d ≤ 4) ∧ v = nI d ∧ ix v = d := fun h => by
    obtain ⟨d, hd, rfl⟩ := dep_inR h
    exact ⟨d, hd, rfl, ix_nI (by omega)⟩
  have hpm : inB v0 (nI ng) = true → inR v1 1 4 = true → (trM true rr (ix v1) (gs (ix v0)).2.1 (gs (ix v0)).2.2.1 (K, kp, ck, 0, 0)).2.2.2.2 = (trS 64 (nI rr) (ix v1) (gs (ix v0)).2.1 (gs (ix v0)).2.2.1 (E, cn, us, 0, 0)).2.2.2.2 := fun a1 a2 => by
    obtain ⟨i, hi, e0, ex⟩ := hin a1
    obtain ⟨d, hd, e1, ed⟩ := hdn a2
    rw [ex, ed]
    exact hI.price (by omega) hd.2 (by have := (hgs i hi).2.1; omega)
  have hKQ := kq5 (c := !(gs (ix v0)).2.2.2.2.2.2.2.2 && !ovN (gs (ix v0)).2.1) (p := decide (mxI (trM true rr (ix v1) (gs (ix v0)).2.1 (gs (ix v0)).2.2.1 (K, kp, ck, 0, 0)).2.2.2.2 1 ≤ mon (gs (ix v0)).1)) (q := decide (mxI (trS 64 (nI rr) (ix v1) (gs (ix v0)).2.1 (gs (ix v0)).2.2.1 (E, cn, us, 0, 0)).2.2.2.2 1 ≤ mon (gs (ix v0)).1)) (e := decide (nt < 60)) (fun a1 a2 => by rw [hpm a1 a2])
  rcases h1a with ⟨k0, rfl, ⟨g, go, gA⟩, hN⟩ | ⟨k0, rfl, ⟨g, go⟩, hN⟩
  · have hKK : _ = (0 : Int32) := k0
    rcases h2a with ⟨k1, rfl, hN2⟩ | ⟨k1, -, -⟩
    · obtain ⟨q1, q2, q3⟩ := joinC hM ho hoD hO go hS
      obtain ⟨a1, a2, a3, a4, a5⟩ := kz5 k0
      obtain ⟨i, hi, e0, ex⟩ := hin a1
      obtain ⟨d, hd, e1, ed⟩ := hdn a2
      have hi2 : ix v0 < ng := by rw [ex]; exact hi
      have hd2 : ix v1 ≤ 4 := by rw [ed]; exact hd.2
      have hv := sx_of (and_l a3)
      obtain ⟨K', hK', hN2⟩ := hN2
      rw [hpm a1 a2] at hN2
      have hN3 := hN2
      obtain ⟨⟨dz, gd, hi_, mi, fh, hm⟩, -⟩ := hN3
      exact ⟨0, _, rfl, rfl, ⟨_, _, _, _, _, _, _, _, _, _, _, _, _, _, _, _, _, hm⟩, ⟨g, q2, fun _ => gA.trans (congrArg Int32.toInt64 (Eq.symm (rfl)))⟩, ⟨_, _, _, _, _, _, _, _, _, _, _, _, _, _, _, _, _, _, _, _, _, _, _, _, CW.kpt hN h34 q1, hN2, (hI.hint (by omega) hi2 hd2 (of_decide_eq_true a5) hv (hgs _ hi2).2.1 (hgs _ hi2).2.2 hK' _ _ (Y := ((gs (ix v0)).1, (gs (ix v0)).2.1, (gs (ix v0)).2.2.1, (gs (ix v0)).2.2.2.1, (gs (ix v0)).2.2.2.2.1, (gs (ix v0)).2.2.2.2.2.1, (gs (ix v0)).2.2.2.2.2.2.1, (gs (ix v0)).2.2.2.2.2.2.2.1 + (mxI (trS 64 (nI rr) (ix v1) (gs (ix v0)).2.1 (gs (ix v0)).2.2.1 (E, cn, us, 0, 0)).2.2.2.2 1), (gs (ix v0)).2.2.2.2.2.2.2.2)) (gsp1 _ _ _ _ _ _ _ _ _) (gsp2 _ _ _ _ _ _ _ _ _) (gsp3 _ _ _ _ _ _ _ _ _) (gsp8 _ _ _ _ _ _ _ _ _) hv), hrI, ⟨g, q2⟩, ⟨gD, q3⟩⟩⟩
    · exact absurd ((hKQ).trans k0) k1
  · rcases h2a with ⟨k1, -, -⟩ | ⟨k1, ⟨x, rfl⟩, hN2⟩
    · exact absurd ((Eq.symm (hKQ)).trans k1) k0
    · obtain ⟨q1, q2, q3⟩ := joinC hM ho hoD hO go hS
      obtain ⟨K', hK', hN2⟩ := hN2
      have hN3 := hN2
      obtain ⟨⟨dz, gd, hi_, mi, fh, hm⟩, -⟩ := hN3
      rw [show ((if inB v0 (nI ng) then (if inR v1 1 4 then (if (!(gs (ix v0)).2.2.2.2.2.2.2.2 && !ovN (gs (ix v0)).2.1) then (if decide ((mxI (trM true rr (ix v1) (gs (ix v0)).2.1 (gs (ix v0)).2.2.1 (K, kp, ck, 0, 0)).2.2.2.2 1) ≤ mon (gs (ix v0)).1) then (if decide (nt < 60) then 0 else 5) else 4) else 3) else 2) else 1) : Int32) = (if inB v0 (nI ng) then (if inR v1 1 4 then (if (!(gs (ix v0)).2.2.2.2.2.2.2.2 && !ovN (gs (ix v0)).2.1) then (if decide ((mxI (trS 64 (nI rr) (ix v1) (gs (ix v0)).2.1 (gs (ix v0)).2.2.1 (E, cn, us, 0, 0)).2.2.2.2 1) ≤ mon (gs (ix v0)).1) then (if decide (nt < 60) then 0 else 5) else 4) else 3) else 2) else 1) from hKQ] at hm
      exact ⟨_, _, rfl, rfl, ⟨_, _, _, _, _, _, _, _, _, _, _, _, _, _, _, _, _, hm⟩, ⟨g, q2, fun z => absurd z k0⟩, ⟨_, _, _, _, _, _, _, _, _, _, _, _, _, _, _, _, _, _, _, _, _, _, _, _, CW.kpt hN h34 q1, hN2, (hI.ext hK'), hrI, ⟨g, q2⟩, ⟨gD, q3⟩⟩⟩
